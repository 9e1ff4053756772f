/-! the constructors, by program (wip/whole/gen/ctor.py) -/
abbrev mX10_init : MM := (RX10, cX10_init, 1, none, yX10_init, [])
theorem ob_X10 : Cond.methodLink RX10 3 Lib.objectInit ∈ lw_tbl := List.mem_of_getElem? (i := 170) (by decide +kernel)
theorem nw_X10_9 : Cond.classLink RX10 9 RX9 ∈ lw_tbl := List.mem_of_getElem? (i := 173) (by decide +kernel)
theorem ni_9 : Cond.instantiable RX9 9 ∈ lw_tbl := List.mem_of_getElem? (i := 174) (by decide +kernel)
theorem nn_9 : Cond.initialized RX9 ∈ lw_tbl := List.mem_of_getElem? (i := 140) (by decide +kernel)
theorem lk_X10_11 : Cond.methodLink RX10 11 yX9_init ∈ lw_tbl ∨ ∃ host, Cond.methodLinkNest RX10 11 yX9_init host ∈ lw_tbl := Or.inl (List.mem_of_getElem? (i := 175) (by decide +kernel))
theorem cf_X10_init_12 : CdF mX10_init 12 10 0 := ⟨(RX10, TX10, 14), rfl, by decide, List.mem_of_getElem? (i := 543) (by decide +kernel), Or.inr ⟨rfl, rfl, rfl⟩⟩
theorem ir_10_0 : ms_isr 10 0 = true := by decide +kernel
theorem nw_X10_16 : Cond.classLink RX10 16 RX6 ∈ lw_tbl := List.mem_of_getElem? (i := 214) (by decide +kernel)
theorem lk_X10_18 : Cond.methodLink RX10 18 yX6_init ∈ lw_tbl ∨ ∃ host, Cond.methodLinkNest RX10 18 yX6_init host ∈ lw_tbl := Or.inl (List.mem_of_getElem? (i := 216) (by decide +kernel))
theorem cf_X10_init_19 : CdF mX10_init 19 10 1 := ⟨(RX10, TX10, 14), rfl, by decide, List.mem_of_getElem? (i := 544) (by decide +kernel), Or.inr ⟨rfl, rfl, rfl⟩⟩
theorem ir_10_1 : ms_isr 10 1 = true := by decide +kernel
theorem nw_X10_23 : Cond.classLink RX10 23 RX8 ∈ lw_tbl := List.mem_of_getElem? (i := 366) (by decide +kernel)
theorem ni_8 : Cond.instantiable RX8 2 ∈ lw_tbl := List.mem_of_getElem? (i := 367) (by decide +kernel)
theorem nn_8 : Cond.initialized RX8 ∈ lw_tbl := List.mem_of_getElem? (i := 145) (by decide +kernel)
theorem gf_X10_init_12 : ∃ r : vw_C, ms_cl[10]? = some r ∧ 0 < r.2.2 ∧ Cond.fieldLink mX10_init.1 12 (r.2.1 0).1 (r.2.1 0).2.1 (r.2.1 0).2.2.1 ∈ lw_tbl := ⟨(RX10, TX10, 14), rfl, by decide, List.mem_of_getElem? (i := 543) (by decide +kernel)⟩
theorem lk_X10_25 : Cond.methodLink RX10 25 yX8_init ∈ lw_tbl ∨ ∃ host, Cond.methodLinkNest RX10 25 yX8_init host ∈ lw_tbl := Or.inl (List.mem_of_getElem? (i := 368) (by decide +kernel))
theorem cf_X10_init_28 : CdF mX10_init 28 10 2 := ⟨(RX10, TX10, 14), rfl, by decide, List.mem_of_getElem? (i := 545) (by decide +kernel), Or.inr ⟨rfl, rfl, rfl⟩⟩
theorem ir_10_2 : ms_isr 10 2 = true := by decide +kernel
theorem nw_X10_32 : Cond.classLink RX10 32 RX4 ∈ lw_tbl := List.mem_of_getElem? (i := 382) (by decide +kernel)
theorem ni_4 : Cond.instantiable RX4 6 ∈ lw_tbl := List.mem_of_getElem? (i := 383) (by decide +kernel)
theorem nn_4 : Cond.initialized RX4 ∈ lw_tbl := List.mem_of_getElem? (i := 146) (by decide +kernel)
theorem gf_X10_init_19 : ∃ r : vw_C, ms_cl[10]? = some r ∧ 1 < r.2.2 ∧ Cond.fieldLink mX10_init.1 19 (r.2.1 1).1 (r.2.1 1).2.1 (r.2.1 1).2.2.1 ∈ lw_tbl := ⟨(RX10, TX10, 14), rfl, by decide, List.mem_of_getElem? (i := 544) (by decide +kernel)⟩
theorem lk_X10_34 : Cond.methodLink RX10 34 yX4_init ∈ lw_tbl ∨ ∃ host, Cond.methodLinkNest RX10 34 yX4_init host ∈ lw_tbl := Or.inl (List.mem_of_getElem? (i := 384) (by decide +kernel))
theorem cf_X10_init_37 : CdF mX10_init 37 10 3 := ⟨(RX10, TX10, 14), rfl, by decide, List.mem_of_getElem? (i := 546) (by decide +kernel), Or.inr ⟨rfl, rfl, rfl⟩⟩
theorem ir_10_3 : ms_isr 10 3 = true := by decide +kernel
theorem nw_X10_41 : Cond.classLink RX10 41 RX2 ∈ lw_tbl := List.mem_of_getElem? (i := 409) (by decide +kernel)
theorem ni_2 : Cond.instantiable RX2 3 ∈ lw_tbl := List.mem_of_getElem? (i := 410) (by decide +kernel)
theorem nn_2 : Cond.initialized RX2 ∈ lw_tbl := List.mem_of_getElem? (i := 147) (by decide +kernel)
theorem lk_X10_43 : Cond.methodLink RX10 43 yX2_init ∈ lw_tbl ∨ ∃ host, Cond.methodLinkNest RX10 43 yX2_init host ∈ lw_tbl := Or.inl (List.mem_of_getElem? (i := 411) (by decide +kernel))
theorem cf_X10_init_44 : CdF mX10_init 44 10 4 := ⟨(RX10, TX10, 14), rfl, by decide, List.mem_of_getElem? (i := 547) (by decide +kernel), Or.inr ⟨rfl, rfl, rfl⟩⟩
theorem ir_10_4 : ms_isr 10 4 = true := by decide +kernel
theorem nw_X10_48 : Cond.classLink RX10 48 RX3 ∈ lw_tbl := List.mem_of_getElem? (i := 448) (by decide +kernel)
theorem lk_X10_50 : Cond.methodLink RX10 50 yX3_init ∈ lw_tbl ∨ ∃ host, Cond.methodLinkNest RX10 50 yX3_init host ∈ lw_tbl := Or.inl (List.mem_of_getElem? (i := 449) (by decide +kernel))
theorem cf_X10_init_51 : CdF mX10_init 51 10 5 := ⟨(RX10, TX10, 14), rfl, by decide, List.mem_of_getElem? (i := 548) (by decide +kernel), Or.inr ⟨rfl, rfl, rfl⟩⟩
theorem ir_10_5 : ms_isr 10 5 = true := by decide +kernel
theorem nw_X10_55 : Cond.classLink RX10 55 RX1 ∈ lw_tbl := List.mem_of_getElem? (i := 450) (by decide +kernel)
theorem ni_1 : Cond.instantiable RX1 7 ∈ lw_tbl := List.mem_of_getElem? (i := 451) (by decide +kernel)
theorem nn_1 : Cond.initialized RX1 ∈ lw_tbl := List.mem_of_getElem? (i := 149) (by decide +kernel)
theorem lk_X10_57 : Cond.methodLink RX10 57 yX1_init ∈ lw_tbl ∨ ∃ host, Cond.methodLinkNest RX10 57 yX1_init host ∈ lw_tbl := Or.inl (List.mem_of_getElem? (i := 452) (by decide +kernel))
theorem cf_X10_init_60 : CdF mX10_init 60 10 6 := ⟨(RX10, TX10, 14), rfl, by decide, List.mem_of_getElem? (i := 549) (by decide +kernel), Or.inr ⟨rfl, rfl, rfl⟩⟩
theorem ir_10_6 : ms_isr 10 6 = true := by decide +kernel
theorem cf_X10_init_64 : CdF mX10_init 64 10 7 := ⟨(RX10, TX10, 14), rfl, by decide, List.mem_of_getElem? (i := 550) (by decide +kernel), Or.inr ⟨rfl, rfl, rfl⟩⟩
theorem ir_10_7 : ms_isr 10 7 = true := by decide +kernel
theorem nw_X10_67 : Cond.classLink RX10 67 RX0 ∈ lw_tbl := List.mem_of_getElem? (i := 487) (by decide +kernel)
theorem ni_0 : Cond.instantiable RX0 12 ∈ lw_tbl := List.mem_of_getElem? (i := 488) (by decide +kernel)
theorem nn_0 : Cond.initialized RX0 ∈ lw_tbl := List.mem_of_getElem? (i := 150) (by decide +kernel)
theorem lk_X10_69 : Cond.methodLink RX10 69 yX0_init ∈ lw_tbl ∨ ∃ host, Cond.methodLinkNest RX10 69 yX0_init host ∈ lw_tbl := Or.inl (List.mem_of_getElem? (i := 489) (by decide +kernel))
theorem cf_X10_init_70 : CdF mX10_init 70 10 8 := ⟨(RX10, TX10, 14), rfl, by decide, List.mem_of_getElem? (i := 551) (by decide +kernel), Or.inr ⟨rfl, rfl, rfl⟩⟩
theorem ir_10_8 : ms_isr 10 8 = true := by decide +kernel
theorem cf_X10_init_74 : CdF mX10_init 74 10 9 := ⟨(RX10, TX10, 14), rfl, by decide, List.mem_of_getElem? (i := 552) (by decide +kernel), Or.inr ⟨rfl, rfl, rfl⟩⟩
theorem ir_10_9 : ms_isr 10 9 = true := by decide +kernel
theorem nw_X10_77 : Cond.classLink RX10 77 RX5 ∈ lw_tbl := List.mem_of_getElem? (i := 541) (by decide +kernel)
theorem lk_X10_79 : Cond.methodLink RX10 79 yX5_init ∈ lw_tbl ∨ ∃ host, Cond.methodLinkNest RX10 79 yX5_init host ∈ lw_tbl := Or.inl (List.mem_of_getElem? (i := 542) (by decide +kernel))
theorem cf_X10_init_82 : CdF mX10_init 82 10 10 := ⟨(RX10, TX10, 14), rfl, by decide, List.mem_of_getElem? (i := 553) (by decide +kernel), Or.inr ⟨rfl, rfl, rfl⟩⟩
theorem ir_10_10 : ms_isr 10 10 = true := by decide +kernel
theorem cf_X10_init_86 : CdF mX10_init 86 10 11 := ⟨(RX10, TX10, 14), rfl, by decide, List.mem_of_getElem? (i := 554) (by decide +kernel), Or.inr ⟨rfl, rfl, rfl⟩⟩
theorem ir_10_11 : ms_isr 10 11 = true := by decide +kernel
theorem cf_X10_init_89 : CdF mX10_init 89 10 12 := ⟨(RX10, TX10, 14), rfl, by decide, List.mem_of_getElem? (i := 555) (by decide +kernel), Or.inl rfl⟩
theorem ii_10_12 : ms_isr 10 12 = false := by decide +kernel
theorem cf_X10_init_93 : CdF mX10_init 93 10 13 := ⟨(RX10, TX10, 14), rfl, by decide, List.mem_of_getElem? (i := 556) (by decide +kernel), Or.inl rfl⟩
theorem ii_10_13 : ms_isr 10 13 = false := by decide +kernel
theorem dX10_init_0 : decode cX10_init 0 = .ok (.aload_n 0, 1) := by decide +kernel
theorem dX10_init_1 : decode cX10_init 1 = .ok (.invokespecial 3, 3) := by decide +kernel
theorem dX10_init_4 : decode cX10_init 4 = .ok (.aload_n 0, 1) := by decide +kernel
theorem dX10_init_5 : decode cX10_init 5 = .ok (.new 9, 3) := by decide +kernel
theorem dX10_init_8 : decode cX10_init 8 = .ok (.dup, 1) := by decide +kernel
theorem dX10_init_9 : decode cX10_init 9 = .ok (.invokespecial 11, 3) := by decide +kernel
theorem dX10_init_12 : decode cX10_init 12 = .ok (.putfield 12, 3) := by decide +kernel
theorem dX10_init_15 : decode cX10_init 15 = .ok (.aload_n 0, 1) := by decide +kernel
theorem dX10_init_16 : decode cX10_init 16 = .ok (.new 16, 3) := by decide +kernel
theorem dX10_init_19 : decode cX10_init 19 = .ok (.dup, 1) := by decide +kernel
theorem dX10_init_20 : decode cX10_init 20 = .ok (.invokespecial 18, 3) := by decide +kernel
theorem dX10_init_23 : decode cX10_init 23 = .ok (.putfield 19, 3) := by decide +kernel
theorem dX10_init_26 : decode cX10_init 26 = .ok (.aload_n 0, 1) := by decide +kernel
theorem dX10_init_27 : decode cX10_init 27 = .ok (.new 23, 3) := by decide +kernel
theorem dX10_init_30 : decode cX10_init 30 = .ok (.dup, 1) := by decide +kernel
theorem dX10_init_31 : decode cX10_init 31 = .ok (.aload_n 0, 1) := by decide +kernel
theorem dX10_init_32 : decode cX10_init 32 = .ok (.getfield 12, 3) := by decide +kernel
theorem dX10_init_35 : decode cX10_init 35 = .ok (.invokespecial 25, 3) := by decide +kernel
theorem dX10_init_38 : decode cX10_init 38 = .ok (.putfield 28, 3) := by decide +kernel
theorem dX10_init_41 : decode cX10_init 41 = .ok (.aload_n 0, 1) := by decide +kernel
theorem dX10_init_42 : decode cX10_init 42 = .ok (.new 32, 3) := by decide +kernel
theorem dX10_init_45 : decode cX10_init 45 = .ok (.dup, 1) := by decide +kernel
theorem dX10_init_46 : decode cX10_init 46 = .ok (.aload_n 0, 1) := by decide +kernel
theorem dX10_init_47 : decode cX10_init 47 = .ok (.getfield 12, 3) := by decide +kernel
theorem dX10_init_50 : decode cX10_init 50 = .ok (.aload_n 0, 1) := by decide +kernel
theorem dX10_init_51 : decode cX10_init 51 = .ok (.getfield 19, 3) := by decide +kernel
theorem dX10_init_54 : decode cX10_init 54 = .ok (.invokespecial 34, 3) := by decide +kernel
theorem dX10_init_57 : decode cX10_init 57 = .ok (.putfield 37, 3) := by decide +kernel
theorem dX10_init_60 : decode cX10_init 60 = .ok (.aload_n 0, 1) := by decide +kernel
theorem dX10_init_61 : decode cX10_init 61 = .ok (.new 41, 3) := by decide +kernel
theorem dX10_init_64 : decode cX10_init 64 = .ok (.dup, 1) := by decide +kernel
theorem dX10_init_65 : decode cX10_init 65 = .ok (.invokespecial 43, 3) := by decide +kernel
theorem dX10_init_68 : decode cX10_init 68 = .ok (.putfield 44, 3) := by decide +kernel
theorem dX10_init_71 : decode cX10_init 71 = .ok (.aload_n 0, 1) := by decide +kernel
theorem dX10_init_72 : decode cX10_init 72 = .ok (.new 48, 3) := by decide +kernel
theorem dX10_init_75 : decode cX10_init 75 = .ok (.dup, 1) := by decide +kernel
theorem dX10_init_76 : decode cX10_init 76 = .ok (.invokespecial 50, 3) := by decide +kernel
theorem dX10_init_79 : decode cX10_init 79 = .ok (.putfield 51, 3) := by decide +kernel
theorem dX10_init_82 : decode cX10_init 82 = .ok (.aload_n 0, 1) := by decide +kernel
theorem dX10_init_83 : decode cX10_init 83 = .ok (.new 55, 3) := by decide +kernel
theorem dX10_init_86 : decode cX10_init 86 = .ok (.dup, 1) := by decide +kernel
theorem dX10_init_87 : decode cX10_init 87 = .ok (.aload_n 0, 1) := by decide +kernel
theorem dX10_init_88 : decode cX10_init 88 = .ok (.getfield 19, 3) := by decide +kernel
theorem dX10_init_91 : decode cX10_init 91 = .ok (.invokespecial 57, 3) := by decide +kernel
theorem dX10_init_94 : decode cX10_init 94 = .ok (.putfield 60, 3) := by decide +kernel
theorem dX10_init_97 : decode cX10_init 97 = .ok (.aload_n 0, 1) := by decide +kernel
theorem dX10_init_98 : decode cX10_init 98 = .ok (.new 55, 3) := by decide +kernel
theorem dX10_init_101 : decode cX10_init 101 = .ok (.dup, 1) := by decide +kernel
theorem dX10_init_102 : decode cX10_init 102 = .ok (.aload_n 0, 1) := by decide +kernel
theorem dX10_init_103 : decode cX10_init 103 = .ok (.getfield 19, 3) := by decide +kernel
theorem dX10_init_106 : decode cX10_init 106 = .ok (.invokespecial 57, 3) := by decide +kernel
theorem dX10_init_109 : decode cX10_init 109 = .ok (.putfield 64, 3) := by decide +kernel
theorem dX10_init_112 : decode cX10_init 112 = .ok (.aload_n 0, 1) := by decide +kernel
theorem dX10_init_113 : decode cX10_init 113 = .ok (.new 67, 3) := by decide +kernel
theorem dX10_init_116 : decode cX10_init 116 = .ok (.dup, 1) := by decide +kernel
theorem dX10_init_117 : decode cX10_init 117 = .ok (.aload_n 0, 1) := by decide +kernel
theorem dX10_init_118 : decode cX10_init 118 = .ok (.getfield 19, 3) := by decide +kernel
theorem dX10_init_121 : decode cX10_init 121 = .ok (.invokespecial 69, 3) := by decide +kernel
theorem dX10_init_124 : decode cX10_init 124 = .ok (.putfield 70, 3) := by decide +kernel
theorem dX10_init_127 : decode cX10_init 127 = .ok (.aload_n 0, 1) := by decide +kernel
theorem dX10_init_128 : decode cX10_init 128 = .ok (.new 67, 3) := by decide +kernel
theorem dX10_init_131 : decode cX10_init 131 = .ok (.dup, 1) := by decide +kernel
theorem dX10_init_132 : decode cX10_init 132 = .ok (.aload_n 0, 1) := by decide +kernel
theorem dX10_init_133 : decode cX10_init 133 = .ok (.getfield 19, 3) := by decide +kernel
theorem dX10_init_136 : decode cX10_init 136 = .ok (.invokespecial 69, 3) := by decide +kernel
theorem dX10_init_139 : decode cX10_init 139 = .ok (.putfield 74, 3) := by decide +kernel
theorem dX10_init_142 : decode cX10_init 142 = .ok (.aload_n 0, 1) := by decide +kernel
theorem dX10_init_143 : decode cX10_init 143 = .ok (.new 77, 3) := by decide +kernel
theorem dX10_init_146 : decode cX10_init 146 = .ok (.dup, 1) := by decide +kernel
theorem dX10_init_147 : decode cX10_init 147 = .ok (.iconst 1, 1) := by decide +kernel
theorem dX10_init_148 : decode cX10_init 148 = .ok (.invokespecial 79, 3) := by decide +kernel
theorem dX10_init_151 : decode cX10_init 151 = .ok (.putfield 82, 3) := by decide +kernel
theorem dX10_init_154 : decode cX10_init 154 = .ok (.aload_n 0, 1) := by decide +kernel
theorem dX10_init_155 : decode cX10_init 155 = .ok (.new 77, 3) := by decide +kernel
theorem dX10_init_158 : decode cX10_init 158 = .ok (.dup, 1) := by decide +kernel
theorem dX10_init_159 : decode cX10_init 159 = .ok (.sipush 2160, 3) := by decide +kernel
theorem dX10_init_162 : decode cX10_init 162 = .ok (.invokespecial 79, 3) := by decide +kernel
theorem dX10_init_165 : decode cX10_init 165 = .ok (.putfield 86, 3) := by decide +kernel
theorem dX10_init_168 : decode cX10_init 168 = .ok (.aload_n 0, 1) := by decide +kernel
theorem dX10_init_169 : decode cX10_init 169 = .ok (.iconst 0, 1) := by decide +kernel
theorem dX10_init_170 : decode cX10_init 170 = .ok (.putfield 89, 3) := by decide +kernel
theorem dX10_init_173 : decode cX10_init 173 = .ok (.aload_n 0, 1) := by decide +kernel
theorem dX10_init_174 : decode cX10_init 174 = .ok (.iconst (-1), 1) := by decide +kernel
theorem dX10_init_175 : decode cX10_init 175 = .ok (.putfield 93, 3) := by decide +kernel
theorem dX10_init_178 : decode cX10_init 178 = .ok (.return_, 1) := by decide +kernel
theorem fi_X10_init : CdYI mX10_init := ⟨List.mem_of_getElem? (i := 168) (by decide +kernel), List.mem_of_getElem? (i := 139) (by decide +kernel), List.mem_of_getElem? (i := 169) (by decide +kernel), by decide +kernel, by decide +kernel, by decide, rfl, rfl⟩
def f_X10_init_168 (δ : DSt) (l0 : Nat) : Option DSt :=
  (cd_pi δ 10 l0 12 0).bind fun δ44 =>
  (cd_pi δ44 10 l0 13 (-1)).bind fun δ45 =>
  some δ45
def f_X10_init_112 (δ : DSt) (l0 : Nat) : Option DSt :=
  (cd_new δ 0).bind fun δ30 =>
  (cd_gr δ30 10 l0 1).bind fun v31 =>
  (f_X0_init δ30 δ.1 v31).bind fun δ32 =>
  (cd_pr δ32 10 l0 8 δ.1).bind fun δ33 =>
  (cd_new δ33 0).bind fun δ34 =>
  (cd_gr δ34 10 l0 1).bind fun v35 =>
  (f_X0_init δ34 δ33.1 v35).bind fun δ36 =>
  (cd_pr δ36 10 l0 9 δ33.1).bind fun δ37 =>
  (cd_new δ37 5).bind fun δ38 =>
  (f_X5_init δ38 δ37.1 1).bind fun δ39 =>
  (cd_pr δ39 10 l0 10 δ37.1).bind fun δ40 =>
  (cd_new δ40 5).bind fun δ41 =>
  (f_X5_init δ41 δ40.1 2160).bind fun δ42 =>
  (cd_pr δ42 10 l0 11 δ40.1).bind fun δ43 =>
  f_X10_init_168 δ43 l0
def f_X10_init_60 (δ : DSt) (l0 : Nat) : Option DSt :=
  (cd_new δ 2).bind fun δ16 =>
  (f_X2_init δ16 δ.1).bind fun δ17 =>
  (cd_pr δ17 10 l0 4 δ.1).bind fun δ18 =>
  (cd_new δ18 3).bind fun δ19 =>
  (f_X3_init δ19 δ18.1).bind fun δ20 =>
  (cd_pr δ20 10 l0 5 δ18.1).bind fun δ21 =>
  (cd_new δ21 1).bind fun δ22 =>
  (cd_gr δ22 10 l0 1).bind fun v23 =>
  (f_X1_init δ22 δ21.1 v23).bind fun δ24 =>
  (cd_pr δ24 10 l0 6 δ21.1).bind fun δ25 =>
  (cd_new δ25 1).bind fun δ26 =>
  (cd_gr δ26 10 l0 1).bind fun v27 =>
  (f_X1_init δ26 δ25.1 v27).bind fun δ28 =>
  (cd_pr δ28 10 l0 7 δ25.1).bind fun δ29 =>
  f_X10_init_112 δ29 l0
def f_X10_init (δ : DSt) (l0 : Nat) : Option DSt :=
  (cd_new δ 9).bind fun δ1 =>
  (f_X9_init δ1 δ.1).bind fun δ2 =>
  (cd_pr δ2 10 l0 0 δ.1).bind fun δ3 =>
  (cd_new δ3 6).bind fun δ4 =>
  (f_X6_init δ4 δ3.1).bind fun δ5 =>
  (cd_pr δ5 10 l0 1 δ3.1).bind fun δ6 =>
  (cd_new δ6 8).bind fun δ7 =>
  (cd_gr δ7 10 l0 0).bind fun v8 =>
  (f_X8_init δ7 δ6.1 v8).bind fun δ9 =>
  (cd_pr δ9 10 l0 2 δ6.1).bind fun δ10 =>
  (cd_new δ10 4).bind fun δ11 =>
  (cd_gr δ11 10 l0 0).bind fun v12 =>
  (cd_gr δ11 10 l0 1).bind fun v13 =>
  (f_X4_init δ11 δ10.1 v12 v13).bind fun δ14 =>
  (cd_pr δ14 10 l0 3 δ10.1).bind fun δ15 =>
  f_X10_init_60 δ15 l0
set_option maxRecDepth 100000 in
theorem t_X10_init_168 (G : MG) (d : Nat) (hd : 5 ≤ d) {c0 s0 : Nat} (δ : DSt) (l0 : Nat) : TrC G mX10_init d c0 s0 178 [] 168 [(0, .ref l0)] [] δ (f_X10_init_168 δ l0) := by
  show TrC G mX10_init d c0 s0 178 [] 168 [(0, .ref l0)] [] δ ((cd_pi δ 10 l0 12 0).bind fun δ44 => (cd_pi δ44 10 l0 13 (-1)).bind fun δ45 => some δ45)
  refine tc_aload_n (i := 0) dX10_init_168 rfl ?_
  refine tc_iconst (v := 0) dX10_init_169 (by decide +kernel) ?_
  refine tc_puti 10 12 cf_X10_init_89 ii_10_12 (by decide +kernel) (by decide +kernel) dX10_init_170 (fun δ44 => ?_)
  refine tc_aload_n (i := 0) dX10_init_173 rfl ?_
  refine tc_iconst (v := (-1)) dX10_init_174 (by decide +kernel) ?_
  refine tc_puti 10 13 cf_X10_init_93 ii_10_13 (by decide +kernel) (by decide +kernel) dX10_init_175 (fun δ45 => ?_)
  refine tc_weak [] (lv' := []) rfl ?_
  exact tc_end
set_option maxRecDepth 100000 in
theorem t_X10_init_112 (G : MG) (d : Nat) (hd : 5 ≤ d) {c0 s0 : Nat} (δ : DSt) (l0 : Nat) : TrC G mX10_init d c0 s0 178 [] 112 [(0, .ref l0)] [] δ (f_X10_init_112 δ l0) := by
  show TrC G mX10_init d c0 s0 178 [] 112 [(0, .ref l0)] [] δ ((cd_new δ 0).bind fun δ30 => (cd_gr δ30 10 l0 1).bind fun v31 => (f_X0_init δ30 δ.1 v31).bind fun δ32 => (cd_pr δ32 10 l0 8 δ.1).bind fun δ33 => (cd_new δ33 0).bind fun δ34 => (cd_gr δ34 10 l0 1).bind fun v35 => (f_X0_init δ34 δ33.1 v35).bind fun δ36 => (cd_pr δ36 10 l0 9 δ33.1).bind fun δ37 => (cd_new δ37 5).bind fun δ38 => (f_X5_init δ38 δ37.1 1).bind fun δ39 => (cd_pr δ39 10 l0 10 δ37.1).bind fun δ40 => (cd_new δ40 5).bind fun δ41 => (f_X5_init δ41 δ40.1 2160).bind fun δ42 => (cd_pr δ42 10 l0 11 δ40.1).bind fun δ43 => f_X10_init_168 δ43 l0)
  refine tc_aload_n (i := 0) dX10_init_112 rfl ?_
  refine tc_new 0 (RX0, TX0, 12) rfl nw_X10_67 ni_0 nn_0 dX10_init_113 (fun δ30 => ?_)
  refine tc_dup dX10_init_116 rfl ?_
  refine tc_aload_n (i := 0) dX10_init_117 rfl ?_
  refine tc_getr 10 1 gf_X10_init_19 ir_10_1 dX10_init_118 (fun v31 => ?_)
  refine tc_init (rest := [.ref δ.1, .ref l0]) (al := [.ref v31]) (sp_X0_init G (d - 1) (by omega) δ30 δ.1 v31) lk_X10_69 fi_X0_init dX10_init_121 (show _ = some 1 by decide +kernel) (by omega) (Nat.le_of_ble_eq_true rfl) (fun δ32 => ?_)
  refine tc_putr 10 8 cf_X10_init_70 ir_10_8 (fun _ => rfl) (fun _ => rfl) dX10_init_124 (fun δ33 => ?_)
  refine tc_aload_n (i := 0) dX10_init_127 rfl ?_
  refine tc_new 0 (RX0, TX0, 12) rfl nw_X10_67 ni_0 nn_0 dX10_init_128 (fun δ34 => ?_)
  refine tc_dup dX10_init_131 rfl ?_
  refine tc_aload_n (i := 0) dX10_init_132 rfl ?_
  refine tc_getr 10 1 gf_X10_init_19 ir_10_1 dX10_init_133 (fun v35 => ?_)
  refine tc_init (rest := [.ref δ33.1, .ref l0]) (al := [.ref v35]) (sp_X0_init G (d - 1) (by omega) δ34 δ33.1 v35) lk_X10_69 fi_X0_init dX10_init_136 (show _ = some 1 by decide +kernel) (by omega) (Nat.le_of_ble_eq_true rfl) (fun δ36 => ?_)
  refine tc_putr 10 9 cf_X10_init_74 ir_10_9 (fun _ => rfl) (fun _ => rfl) dX10_init_139 (fun δ37 => ?_)
  refine tc_aload_n (i := 0) dX10_init_142 rfl ?_
  refine tc_new 5 (RX5, TX5, 2) rfl nw_X10_77 ni_5 nn_5 dX10_init_143 (fun δ38 => ?_)
  refine tc_dup dX10_init_146 rfl ?_
  refine tc_iconst (v := 1) dX10_init_147 (by decide +kernel) ?_
  refine tc_init (rest := [.ref δ37.1, .ref l0]) (al := [.int 1]) (sp_X5_init G (d - 1) (by omega) δ38 δ37.1 1) lk_X10_79 fi_X5_init dX10_init_148 (show _ = some 1 by decide +kernel) (by omega) (Nat.le_of_ble_eq_true rfl) (fun δ39 => ?_)
  refine tc_putr 10 10 cf_X10_init_82 ir_10_10 (fun _ => rfl) (fun _ => rfl) dX10_init_151 (fun δ40 => ?_)
  refine tc_aload_n (i := 0) dX10_init_154 rfl ?_
  refine tc_new 5 (RX5, TX5, 2) rfl nw_X10_77 ni_5 nn_5 dX10_init_155 (fun δ41 => ?_)
  refine tc_dup dX10_init_158 rfl ?_
  refine tc_sipush (v := 2160) dX10_init_159 (by decide +kernel) ?_
  refine tc_init (rest := [.ref δ40.1, .ref l0]) (al := [.int 2160]) (sp_X5_init G (d - 1) (by omega) δ41 δ40.1 2160) lk_X10_79 fi_X5_init dX10_init_162 (show _ = some 1 by decide +kernel) (by omega) (Nat.le_of_ble_eq_true rfl) (fun δ42 => ?_)
  refine tc_putr 10 11 cf_X10_init_86 ir_10_11 (fun _ => rfl) (fun _ => rfl) dX10_init_165 (fun δ43 => ?_)
  exact t_X10_init_168 G d hd δ43 l0
set_option maxRecDepth 100000 in
theorem t_X10_init_60 (G : MG) (d : Nat) (hd : 5 ≤ d) {c0 s0 : Nat} (δ : DSt) (l0 : Nat) : TrC G mX10_init d c0 s0 178 [] 60 [(0, .ref l0)] [] δ (f_X10_init_60 δ l0) := by
  show TrC G mX10_init d c0 s0 178 [] 60 [(0, .ref l0)] [] δ ((cd_new δ 2).bind fun δ16 => (f_X2_init δ16 δ.1).bind fun δ17 => (cd_pr δ17 10 l0 4 δ.1).bind fun δ18 => (cd_new δ18 3).bind fun δ19 => (f_X3_init δ19 δ18.1).bind fun δ20 => (cd_pr δ20 10 l0 5 δ18.1).bind fun δ21 => (cd_new δ21 1).bind fun δ22 => (cd_gr δ22 10 l0 1).bind fun v23 => (f_X1_init δ22 δ21.1 v23).bind fun δ24 => (cd_pr δ24 10 l0 6 δ21.1).bind fun δ25 => (cd_new δ25 1).bind fun δ26 => (cd_gr δ26 10 l0 1).bind fun v27 => (f_X1_init δ26 δ25.1 v27).bind fun δ28 => (cd_pr δ28 10 l0 7 δ25.1).bind fun δ29 => f_X10_init_112 δ29 l0)
  refine tc_aload_n (i := 0) dX10_init_60 rfl ?_
  refine tc_new 2 (RX2, TX2, 3) rfl nw_X10_41 ni_2 nn_2 dX10_init_61 (fun δ16 => ?_)
  refine tc_dup dX10_init_64 rfl ?_
  refine tc_init (rest := [.ref δ.1, .ref l0]) (al := []) (sp_X2_init G (d - 1) (by omega) δ16 δ.1) lk_X10_43 fi_X2_init dX10_init_65 (show _ = some 0 by decide +kernel) (by omega) (Nat.le_of_ble_eq_true rfl) (fun δ17 => ?_)
  refine tc_putr 10 4 cf_X10_init_44 ir_10_4 (fun _ => rfl) (fun _ => rfl) dX10_init_68 (fun δ18 => ?_)
  refine tc_aload_n (i := 0) dX10_init_71 rfl ?_
  refine tc_new 3 (RX3, TX3, 4) rfl nw_X10_48 ni_3 nn_3 dX10_init_72 (fun δ19 => ?_)
  refine tc_dup dX10_init_75 rfl ?_
  refine tc_init (rest := [.ref δ18.1, .ref l0]) (al := []) (sp_X3_init G (d - 1) (by omega) δ19 δ18.1) lk_X10_50 fi_X3_init dX10_init_76 (show _ = some 0 by decide +kernel) (by omega) (Nat.le_of_ble_eq_true rfl) (fun δ20 => ?_)
  refine tc_putr 10 5 cf_X10_init_51 ir_10_5 (fun _ => rfl) (fun _ => rfl) dX10_init_79 (fun δ21 => ?_)
  refine tc_aload_n (i := 0) dX10_init_82 rfl ?_
  refine tc_new 1 (RX1, TX1, 7) rfl nw_X10_55 ni_1 nn_1 dX10_init_83 (fun δ22 => ?_)
  refine tc_dup dX10_init_86 rfl ?_
  refine tc_aload_n (i := 0) dX10_init_87 rfl ?_
  refine tc_getr 10 1 gf_X10_init_19 ir_10_1 dX10_init_88 (fun v23 => ?_)
  refine tc_init (rest := [.ref δ21.1, .ref l0]) (al := [.ref v23]) (sp_X1_init G (d - 1) (by omega) δ22 δ21.1 v23) lk_X10_57 fi_X1_init dX10_init_91 (show _ = some 1 by decide +kernel) (by omega) (Nat.le_of_ble_eq_true rfl) (fun δ24 => ?_)
  refine tc_putr 10 6 cf_X10_init_60 ir_10_6 (fun _ => rfl) (fun _ => rfl) dX10_init_94 (fun δ25 => ?_)
  refine tc_aload_n (i := 0) dX10_init_97 rfl ?_
  refine tc_new 1 (RX1, TX1, 7) rfl nw_X10_55 ni_1 nn_1 dX10_init_98 (fun δ26 => ?_)
  refine tc_dup dX10_init_101 rfl ?_
  refine tc_aload_n (i := 0) dX10_init_102 rfl ?_
  refine tc_getr 10 1 gf_X10_init_19 ir_10_1 dX10_init_103 (fun v27 => ?_)
  refine tc_init (rest := [.ref δ25.1, .ref l0]) (al := [.ref v27]) (sp_X1_init G (d - 1) (by omega) δ26 δ25.1 v27) lk_X10_57 fi_X1_init dX10_init_106 (show _ = some 1 by decide +kernel) (by omega) (Nat.le_of_ble_eq_true rfl) (fun δ28 => ?_)
  refine tc_putr 10 7 cf_X10_init_64 ir_10_7 (fun _ => rfl) (fun _ => rfl) dX10_init_109 (fun δ29 => ?_)
  exact t_X10_init_112 G d hd δ29 l0
set_option maxRecDepth 100000 in
theorem sp_X10_init (G : MG) (d : Nat) (hd : 5 ≤ d) (δ : DSt) (l0 : Nat) : CdSpec G mX10_init d [.ref l0] δ (f_X10_init δ l0) := by
  refine tc_start (pc2 := 178) (lv2 := []) (by decide +kernel) rfl rfl rfl (Nat.le_of_ble_eq_true rfl) dX10_init_178 ?_
  show TrC G mX10_init d δ.1 (cd_z δ.1) 178 [] 0 [(0, .ref l0)] [] δ ((cd_new δ 9).bind fun δ1 => (f_X9_init δ1 δ.1).bind fun δ2 => (cd_pr δ2 10 l0 0 δ.1).bind fun δ3 => (cd_new δ3 6).bind fun δ4 => (f_X6_init δ4 δ3.1).bind fun δ5 => (cd_pr δ5 10 l0 1 δ3.1).bind fun δ6 => (cd_new δ6 8).bind fun δ7 => (cd_gr δ7 10 l0 0).bind fun v8 => (f_X8_init δ7 δ6.1 v8).bind fun δ9 => (cd_pr δ9 10 l0 2 δ6.1).bind fun δ10 => (cd_new δ10 4).bind fun δ11 => (cd_gr δ11 10 l0 0).bind fun v12 => (cd_gr δ11 10 l0 1).bind fun v13 => (f_X4_init δ11 δ10.1 v12 v13).bind fun δ14 => (cd_pr δ14 10 l0 3 δ10.1).bind fun δ15 => f_X10_init_60 δ15 l0)
  refine tc_aload_n (i := 0) dX10_init_0 rfl ?_
  refine tc_obj ob_X10 oi_1 oi_2 (by omega) (Nat.le_of_ble_eq_true rfl) dX10_init_1 ?_
  refine tc_aload_n (i := 0) dX10_init_4 rfl ?_
  refine tc_new 9 (RX9, TX9, 9) rfl nw_X10_9 ni_9 nn_9 dX10_init_5 (fun δ1 => ?_)
  refine tc_dup dX10_init_8 rfl ?_
  refine tc_init (rest := [.ref δ.1, .ref l0]) (al := []) (sp_X9_init G (d - 1) (by omega) δ1 δ.1) lk_X10_11 fi_X9_init dX10_init_9 (show _ = some 0 by decide +kernel) (by omega) (Nat.le_of_ble_eq_true rfl) (fun δ2 => ?_)
  refine tc_putr 10 0 cf_X10_init_12 ir_10_0 (fun _ => rfl) (fun _ => rfl) dX10_init_12 (fun δ3 => ?_)
  refine tc_aload_n (i := 0) dX10_init_15 rfl ?_
  refine tc_new 6 (RX6, TX6, 7) rfl nw_X10_16 ni_6 nn_6 dX10_init_16 (fun δ4 => ?_)
  refine tc_dup dX10_init_19 rfl ?_
  refine tc_init (rest := [.ref δ3.1, .ref l0]) (al := []) (sp_X6_init G (d - 1) (by omega) δ4 δ3.1) lk_X10_18 fi_X6_init dX10_init_20 (show _ = some 0 by decide +kernel) (by omega) (Nat.le_of_ble_eq_true rfl) (fun δ5 => ?_)
  refine tc_putr 10 1 cf_X10_init_19 ir_10_1 (fun _ => rfl) (fun _ => rfl) dX10_init_23 (fun δ6 => ?_)
  refine tc_aload_n (i := 0) dX10_init_26 rfl ?_
  refine tc_new 8 (RX8, TX8, 2) rfl nw_X10_23 ni_8 nn_8 dX10_init_27 (fun δ7 => ?_)
  refine tc_dup dX10_init_30 rfl ?_
  refine tc_aload_n (i := 0) dX10_init_31 rfl ?_
  refine tc_getr 10 0 gf_X10_init_12 ir_10_0 dX10_init_32 (fun v8 => ?_)
  refine tc_init (rest := [.ref δ6.1, .ref l0]) (al := [.ref v8]) (sp_X8_init G (d - 1) (by omega) δ7 δ6.1 v8) lk_X10_25 fi_X8_init dX10_init_35 (show _ = some 1 by decide +kernel) (by omega) (Nat.le_of_ble_eq_true rfl) (fun δ9 => ?_)
  refine tc_putr 10 2 cf_X10_init_28 ir_10_2 (fun _ => rfl) (fun _ => rfl) dX10_init_38 (fun δ10 => ?_)
  refine tc_aload_n (i := 0) dX10_init_41 rfl ?_
  refine tc_new 4 (RX4, TX4, 6) rfl nw_X10_32 ni_4 nn_4 dX10_init_42 (fun δ11 => ?_)
  refine tc_dup dX10_init_45 rfl ?_
  refine tc_aload_n (i := 0) dX10_init_46 rfl ?_
  refine tc_getr 10 0 gf_X10_init_12 ir_10_0 dX10_init_47 (fun v12 => ?_)
  refine tc_aload_n (i := 0) dX10_init_50 rfl ?_
  refine tc_getr 10 1 gf_X10_init_19 ir_10_1 dX10_init_51 (fun v13 => ?_)
  refine tc_init (rest := [.ref δ10.1, .ref l0]) (al := [.ref v12, .ref v13]) (sp_X4_init G (d - 1) (by omega) δ11 δ10.1 v12 v13) lk_X10_34 fi_X4_init dX10_init_54 (show _ = some 2 by decide +kernel) (by omega) (Nat.le_of_ble_eq_true rfl) (fun δ14 => ?_)
  refine tc_putr 10 3 cf_X10_init_37 ir_10_3 (fun _ => rfl) (fun _ => rfl) dX10_init_57 (fun δ15 => ?_)
  exact t_X10_init_60 G d hd δ15 l0
abbrev mX11_init : MM := (RX11, cX11_init, 1, none, yX11_init, [])
theorem ob_X11 : Cond.methodLink RX11 3 Lib.objectInit ∈ lw_tbl := List.mem_of_getElem? (i := 1610) (by decide +kernel)
theorem cf_X11_init_9 : CdF mX11_init 9 11 0 := ⟨(RX11, TX11, 6), rfl, by decide, List.mem_of_getElem? (i := 1611) (by decide +kernel), Or.inr ⟨rfl, rfl, rfl⟩⟩
theorem ir_11_0 : ms_isr 11 0 = true := by decide +kernel
theorem dX11_init_0 : decode cX11_init 0 = .ok (.aload_n 0, 1) := by decide +kernel
theorem dX11_init_1 : decode cX11_init 1 = .ok (.invokespecial 3, 3) := by decide +kernel
theorem dX11_init_4 : decode cX11_init 4 = .ok (.aload_n 0, 1) := by decide +kernel
theorem dX11_init_5 : decode cX11_init 5 = .ok (.sipush 1444, 3) := by decide +kernel
theorem dX11_init_8 : decode cX11_init 8 = .ok (.newarray .int, 2) := by decide +kernel
theorem dX11_init_10 : decode cX11_init 10 = .ok (.putfield 9, 3) := by decide +kernel
theorem dX11_init_13 : decode cX11_init 13 = .ok (.return_, 1) := by decide +kernel
theorem fi_X11_init : CdYI mX11_init := ⟨List.mem_of_getElem? (i := 1608) (by decide +kernel), List.mem_of_getElem? (i := 152) (by decide +kernel), List.mem_of_getElem? (i := 1609) (by decide +kernel), by decide +kernel, by decide +kernel, by decide, rfl, rfl⟩
def f_X11_init (δ : DSt) (l0 : Nat) : Option DSt :=
  (cd_arr δ 0 1444).bind fun δ1 =>
  (cd_pr δ1 11 l0 0 δ.1).bind fun δ2 =>
  some δ2
set_option maxRecDepth 100000 in
theorem sp_X11_init (G : MG) (d : Nat) (hd : 1 ≤ d) (δ : DSt) (l0 : Nat) : CdSpec G mX11_init d [.ref l0] δ (f_X11_init δ l0) := by
  refine tc_start (pc2 := 13) (lv2 := []) (by decide +kernel) rfl rfl rfl (Nat.le_of_ble_eq_true rfl) dX11_init_13 ?_
  show TrC G mX11_init d δ.1 (cd_z δ.1) 13 [] 0 [(0, .ref l0)] [] δ ((cd_arr δ 0 1444).bind fun δ1 => (cd_pr δ1 11 l0 0 δ.1).bind fun δ2 => some δ2)
  refine tc_aload_n (i := 0) dX11_init_0 rfl ?_
  refine tc_obj ob_X11 oi_1 oi_2 (by omega) (Nat.le_of_ble_eq_true rfl) dX11_init_1 ?_
  refine tc_aload_n (i := 0) dX11_init_4 rfl ?_
  refine tc_sipush (v := 1444) dX11_init_5 (by decide +kernel) ?_
  refine tc_arr (atype := .int) 0 (fun _ _ h => h) (by decide) hdf_0 (by decide) am_0 dX11_init_8 (fun δ1 => ?_)
  refine tc_putr 11 0 cf_X11_init_9 ir_11_0 (fun _ => rfl) (fun _ => rfl) dX11_init_10 (fun δ2 => ?_)
  refine tc_weak [] (lv' := []) rfl ?_
  exact tc_end
abbrev mX12_init : MM := (RX12, cX12_init, 1, none, yX12_init, [])
theorem ob_X12 : Cond.methodLink RX12 1 Lib.objectInit ∈ lw_tbl := List.mem_of_getElem? (i := 1604) (by decide +kernel)
theorem cf_X12_init_9 : CdF mX12_init 9 12 0 := ⟨(RX12, TX12, 41), rfl, by decide, List.mem_of_getElem? (i := 1644) (by decide +kernel), Or.inr ⟨rfl, rfl, rfl⟩⟩
theorem ir_12_0 : ms_isr 12 0 = true := by decide +kernel
theorem cf_X12_init_13 : CdF mX12_init 13 12 1 := ⟨(RX12, TX12, 41), rfl, by decide, List.mem_of_getElem? (i := 1645) (by decide +kernel), Or.inr ⟨rfl, rfl, rfl⟩⟩
theorem ir_12_1 : ms_isr 12 1 = true := by decide +kernel
theorem cf_X12_init_16 : CdF mX12_init 16 12 2 := ⟨(RX12, TX12, 41), rfl, by decide, List.mem_of_getElem? (i := 1646) (by decide +kernel), Or.inr ⟨rfl, rfl, rfl⟩⟩
theorem ir_12_2 : ms_isr 12 2 = true := by decide +kernel
theorem cf_X12_init_19 : CdF mX12_init 19 12 3 := ⟨(RX12, TX12, 41), rfl, by decide, List.mem_of_getElem? (i := 1647) (by decide +kernel), Or.inr ⟨rfl, rfl, rfl⟩⟩
theorem ir_12_3 : ms_isr 12 3 = true := by decide +kernel
theorem cf_X12_init_22 : CdF mX12_init 22 12 4 := ⟨(RX12, TX12, 41), rfl, by decide, List.mem_of_getElem? (i := 1648) (by decide +kernel), Or.inr ⟨rfl, rfl, rfl⟩⟩
theorem ir_12_4 : ms_isr 12 4 = true := by decide +kernel
theorem cf_X12_init_25 : CdF mX12_init 25 12 5 := ⟨(RX12, TX12, 41), rfl, by decide, List.mem_of_getElem? (i := 1649) (by decide +kernel), Or.inr ⟨rfl, rfl, rfl⟩⟩
theorem ir_12_5 : ms_isr 12 5 = true := by decide +kernel
theorem cf_X12_init_28 : CdF mX12_init 28 12 9 := ⟨(RX12, TX12, 41), rfl, by decide, List.mem_of_getElem? (i := 1653) (by decide +kernel), Or.inr ⟨rfl, rfl, rfl⟩⟩
theorem ir_12_9 : ms_isr 12 9 = true := by decide +kernel
theorem cf_X12_init_31 : CdF mX12_init 31 12 10 := ⟨(RX12, TX12, 41), rfl, by decide, List.mem_of_getElem? (i := 1654) (by decide +kernel), Or.inr ⟨rfl, rfl, rfl⟩⟩
theorem ir_12_10 : ms_isr 12 10 = true := by decide +kernel
theorem cf_X12_init_34 : CdF mX12_init 34 12 13 := ⟨(RX12, TX12, 41), rfl, by decide, List.mem_of_getElem? (i := 1657) (by decide +kernel), Or.inr ⟨rfl, rfl, rfl⟩⟩
theorem ir_12_13 : ms_isr 12 13 = true := by decide +kernel
theorem cf_X12_init_37 : CdF mX12_init 37 12 14 := ⟨(RX12, TX12, 41), rfl, by decide, List.mem_of_getElem? (i := 1658) (by decide +kernel), Or.inr ⟨rfl, rfl, rfl⟩⟩
theorem ir_12_14 : ms_isr 12 14 = true := by decide +kernel
theorem cf_X12_init_40 : CdF mX12_init 40 12 16 := ⟨(RX12, TX12, 41), rfl, by decide, List.mem_of_getElem? (i := 1660) (by decide +kernel), Or.inr ⟨rfl, rfl, rfl⟩⟩
theorem ir_12_16 : ms_isr 12 16 = true := by decide +kernel
theorem nw_X12_43 : Cond.classLink RX12 43 RX11 ∈ lw_tbl := List.mem_of_getElem? (i := 1605) (by decide +kernel)
theorem ni_11 : Cond.instantiable RX11 6 ∈ lw_tbl := List.mem_of_getElem? (i := 1606) (by decide +kernel)
theorem nn_11 : Cond.initialized RX11 ∈ lw_tbl := List.mem_of_getElem? (i := 152) (by decide +kernel)
theorem lk_X12_45 : Cond.methodLink RX12 45 yX11_init ∈ lw_tbl ∨ ∃ host, Cond.methodLinkNest RX12 45 yX11_init host ∈ lw_tbl := Or.inr ⟨"MarkStacksModel", List.mem_of_getElem? (i := 1607) (by decide +kernel)⟩
theorem cf_X12_init_46 : CdF mX12_init 46 12 18 := ⟨(RX12, TX12, 41), rfl, by decide, List.mem_of_getElem? (i := 1662) (by decide +kernel), Or.inr ⟨rfl, rfl, rfl⟩⟩
theorem ir_12_18 : ms_isr 12 18 = true := by decide +kernel
theorem cf_X12_init_50 : CdF mX12_init 50 12 19 := ⟨(RX12, TX12, 41), rfl, by decide, List.mem_of_getElem? (i := 1663) (by decide +kernel), Or.inr ⟨rfl, rfl, rfl⟩⟩
theorem ir_12_19 : ms_isr 12 19 = true := by decide +kernel
theorem cf_X12_init_53 : CdF mX12_init 53 12 20 := ⟨(RX12, TX12, 41), rfl, by decide, List.mem_of_getElem? (i := 1664) (by decide +kernel), Or.inr ⟨rfl, rfl, rfl⟩⟩
theorem ir_12_20 : ms_isr 12 20 = true := by decide +kernel
theorem cf_X12_init_56 : CdF mX12_init 56 12 21 := ⟨(RX12, TX12, 41), rfl, by decide, List.mem_of_getElem? (i := 1665) (by decide +kernel), Or.inr ⟨rfl, rfl, rfl⟩⟩
theorem ir_12_21 : ms_isr 12 21 = true := by decide +kernel
theorem cf_X12_init_59 : CdF mX12_init 59 12 24 := ⟨(RX12, TX12, 41), rfl, by decide, List.mem_of_getElem? (i := 1668) (by decide +kernel), Or.inr ⟨rfl, rfl, rfl⟩⟩
theorem ir_12_24 : ms_isr 12 24 = true := by decide +kernel
theorem cf_X12_init_62 : CdF mX12_init 62 12 26 := ⟨(RX12, TX12, 41), rfl, by decide, List.mem_of_getElem? (i := 1670) (by decide +kernel), Or.inr ⟨rfl, rfl, rfl⟩⟩
theorem ir_12_26 : ms_isr 12 26 = true := by decide +kernel
theorem cf_X12_init_65 : CdF mX12_init 65 12 34 := ⟨(RX12, TX12, 41), rfl, by decide, List.mem_of_getElem? (i := 1678) (by decide +kernel), Or.inl rfl⟩
theorem ii_12_34 : ms_isr 12 34 = false := by decide +kernel
theorem ac_X12_69 : Cond.classLink RX12 69 "java/lang/String" ∈ lw_tbl := List.mem_of_getElem? (i := 1631) (by decide +kernel)
theorem cf_X12_init_81 : CdF mX12_init 81 12 36 := ⟨(RX12, TX12, 41), rfl, by decide, List.mem_of_getElem? (i := 1680) (by decide +kernel), Or.inr ⟨rfl, rfl, rfl⟩⟩
theorem ir_12_36 : ms_isr 12 36 = true := by decide +kernel
theorem cf_X12_init_97 : CdF mX12_init 97 12 37 := ⟨(RX12, TX12, 41), rfl, by decide, List.mem_of_getElem? (i := 1681) (by decide +kernel), Or.inr ⟨rfl, rfl, rfl⟩⟩
theorem ir_12_37 : ms_isr 12 37 = true := by decide +kernel
theorem cf_X12_init_100 : CdF mX12_init 100 12 38 := ⟨(RX12, TX12, 41), rfl, by decide, List.mem_of_getElem? (i := 1682) (by decide +kernel), Or.inr ⟨rfl, rfl, rfl⟩⟩
theorem ir_12_38 : ms_isr 12 38 = true := by decide +kernel
theorem hdf_2 {G : MG} : ∀ (δ : DSt) (a k : Nat), cd_v δ.2.2 a k = 0 → cd_s δ a k = false → defaultValue (newarray.typeOf .long) = cd_av G δ a 2 k := fun _ _ _ _ _ => rfl
theorem am_2 : Cond.arrayClass (newarray.typeOf .long) ∈ lw_tbl := List.mem_of_getElem? (i := 1768) (by decide +kernel)
theorem cf_X12_init_103 : CdF mX12_init 103 12 39 := ⟨(RX12, TX12, 41), rfl, by decide, List.mem_of_getElem? (i := 1683) (by decide +kernel), Or.inr ⟨rfl, rfl, rfl⟩⟩
theorem ir_12_39 : ms_isr 12 39 = true := by decide +kernel
theorem gf_X12_init_9 : ∃ r : vw_C, ms_cl[12]? = some r ∧ 0 < r.2.2 ∧ Cond.fieldLink mX12_init.1 9 (r.2.1 0).1 (r.2.1 0).2.1 (r.2.1 0).2.2.1 ∈ lw_tbl := ⟨(RX12, TX12, 41), rfl, by decide, List.mem_of_getElem? (i := 1644) (by decide +kernel)⟩
theorem dX12_init_0 : decode cX12_init 0 = .ok (.aload_n 0, 1) := by decide +kernel
theorem dX12_init_1 : decode cX12_init 1 = .ok (.invokespecial 1, 3) := by decide +kernel
theorem dX12_init_4 : decode cX12_init 4 = .ok (.aload_n 0, 1) := by decide +kernel
theorem dX12_init_5 : decode cX12_init 5 = .ok (.sipush 527, 3) := by decide +kernel
theorem dX12_init_8 : decode cX12_init 8 = .ok (.newarray .int, 2) := by decide +kernel
theorem dX12_init_10 : decode cX12_init 10 = .ok (.putfield 9, 3) := by decide +kernel
theorem dX12_init_13 : decode cX12_init 13 = .ok (.aload_n 0, 1) := by decide +kernel
theorem dX12_init_14 : decode cX12_init 14 = .ok (.sipush 527, 3) := by decide +kernel
theorem dX12_init_17 : decode cX12_init 17 = .ok (.newarray .int, 2) := by decide +kernel
theorem dX12_init_19 : decode cX12_init 19 = .ok (.putfield 13, 3) := by decide +kernel
theorem dX12_init_22 : decode cX12_init 22 = .ok (.aload_n 0, 1) := by decide +kernel
theorem dX12_init_23 : decode cX12_init 23 = .ok (.sipush 527, 3) := by decide +kernel
theorem dX12_init_26 : decode cX12_init 26 = .ok (.newarray .int, 2) := by decide +kernel
theorem dX12_init_28 : decode cX12_init 28 = .ok (.putfield 16, 3) := by decide +kernel
theorem dX12_init_31 : decode cX12_init 31 = .ok (.aload_n 0, 1) := by decide +kernel
theorem dX12_init_32 : decode cX12_init 32 = .ok (.sipush 5270, 3) := by decide +kernel
theorem dX12_init_35 : decode cX12_init 35 = .ok (.newarray .int, 2) := by decide +kernel
theorem dX12_init_37 : decode cX12_init 37 = .ok (.putfield 19, 3) := by decide +kernel
theorem dX12_init_40 : decode cX12_init 40 = .ok (.aload_n 0, 1) := by decide +kernel
theorem dX12_init_41 : decode cX12_init 41 = .ok (.sipush 160, 3) := by decide +kernel
theorem dX12_init_44 : decode cX12_init 44 = .ok (.newarray .int, 2) := by decide +kernel
theorem dX12_init_46 : decode cX12_init 46 = .ok (.putfield 22, 3) := by decide +kernel
theorem dX12_init_49 : decode cX12_init 49 = .ok (.aload_n 0, 1) := by decide +kernel
theorem dX12_init_50 : decode cX12_init 50 = .ok (.sipush 160, 3) := by decide +kernel
theorem dX12_init_53 : decode cX12_init 53 = .ok (.newarray .int, 2) := by decide +kernel
theorem dX12_init_55 : decode cX12_init 55 = .ok (.putfield 25, 3) := by decide +kernel
theorem dX12_init_58 : decode cX12_init 58 = .ok (.aload_n 0, 1) := by decide +kernel
theorem dX12_init_59 : decode cX12_init 59 = .ok (.bipush 6, 2) := by decide +kernel
theorem dX12_init_61 : decode cX12_init 61 = .ok (.newarray .int, 2) := by decide +kernel
theorem dX12_init_63 : decode cX12_init 63 = .ok (.putfield 28, 3) := by decide +kernel
theorem dX12_init_66 : decode cX12_init 66 = .ok (.aload_n 0, 1) := by decide +kernel
theorem dX12_init_67 : decode cX12_init 67 = .ok (.sipush 361, 3) := by decide +kernel
theorem dX12_init_70 : decode cX12_init 70 = .ok (.newarray .int, 2) := by decide +kernel
theorem dX12_init_72 : decode cX12_init 72 = .ok (.putfield 31, 3) := by decide +kernel
theorem dX12_init_75 : decode cX12_init 75 = .ok (.aload_n 0, 1) := by decide +kernel
theorem dX12_init_76 : decode cX12_init 76 = .ok (.sipush 361, 3) := by decide +kernel
theorem dX12_init_79 : decode cX12_init 79 = .ok (.newarray .int, 2) := by decide +kernel
theorem dX12_init_81 : decode cX12_init 81 = .ok (.putfield 34, 3) := by decide +kernel
theorem dX12_init_84 : decode cX12_init 84 = .ok (.aload_n 0, 1) := by decide +kernel
theorem dX12_init_85 : decode cX12_init 85 = .ok (.sipush 361, 3) := by decide +kernel
theorem dX12_init_88 : decode cX12_init 88 = .ok (.newarray .int, 2) := by decide +kernel
theorem dX12_init_90 : decode cX12_init 90 = .ok (.putfield 37, 3) := by decide +kernel
theorem dX12_init_93 : decode cX12_init 93 = .ok (.aload_n 0, 1) := by decide +kernel
theorem dX12_init_94 : decode cX12_init 94 = .ok (.sipush 362, 3) := by decide +kernel
theorem dX12_init_97 : decode cX12_init 97 = .ok (.newarray .int, 2) := by decide +kernel
theorem dX12_init_99 : decode cX12_init 99 = .ok (.putfield 40, 3) := by decide +kernel
theorem dX12_init_102 : decode cX12_init 102 = .ok (.aload_n 0, 1) := by decide +kernel
theorem dX12_init_103 : decode cX12_init 103 = .ok (.new 43, 3) := by decide +kernel
theorem dX12_init_106 : decode cX12_init 106 = .ok (.dup, 1) := by decide +kernel
theorem dX12_init_107 : decode cX12_init 107 = .ok (.invokespecial 45, 3) := by decide +kernel
theorem dX12_init_110 : decode cX12_init 110 = .ok (.putfield 46, 3) := by decide +kernel
theorem dX12_init_113 : decode cX12_init 113 = .ok (.aload_n 0, 1) := by decide +kernel
theorem dX12_init_114 : decode cX12_init 114 = .ok (.new 43, 3) := by decide +kernel
theorem dX12_init_117 : decode cX12_init 117 = .ok (.dup, 1) := by decide +kernel
theorem dX12_init_118 : decode cX12_init 118 = .ok (.invokespecial 45, 3) := by decide +kernel
theorem dX12_init_121 : decode cX12_init 121 = .ok (.putfield 50, 3) := by decide +kernel
theorem dX12_init_124 : decode cX12_init 124 = .ok (.aload_n 0, 1) := by decide +kernel
theorem dX12_init_125 : decode cX12_init 125 = .ok (.sipush 361, 3) := by decide +kernel
theorem dX12_init_128 : decode cX12_init 128 = .ok (.newarray .int, 2) := by decide +kernel
theorem dX12_init_130 : decode cX12_init 130 = .ok (.putfield 53, 3) := by decide +kernel
theorem dX12_init_133 : decode cX12_init 133 = .ok (.aload_n 0, 1) := by decide +kernel
theorem dX12_init_134 : decode cX12_init 134 = .ok (.sipush 362, 3) := by decide +kernel
theorem dX12_init_137 : decode cX12_init 137 = .ok (.newarray .int, 2) := by decide +kernel
theorem dX12_init_139 : decode cX12_init 139 = .ok (.putfield 56, 3) := by decide +kernel
theorem dX12_init_142 : decode cX12_init 142 = .ok (.aload_n 0, 1) := by decide +kernel
theorem dX12_init_143 : decode cX12_init 143 = .ok (.sipush 2166, 3) := by decide +kernel
theorem dX12_init_146 : decode cX12_init 146 = .ok (.newarray .int, 2) := by decide +kernel
theorem dX12_init_148 : decode cX12_init 148 = .ok (.putfield 59, 3) := by decide +kernel
theorem dX12_init_151 : decode cX12_init 151 = .ok (.aload_n 0, 1) := by decide +kernel
theorem dX12_init_152 : decode cX12_init 152 = .ok (.sipush 900, 3) := by decide +kernel
theorem dX12_init_155 : decode cX12_init 155 = .ok (.newarray .int, 2) := by decide +kernel
theorem dX12_init_157 : decode cX12_init 157 = .ok (.putfield 62, 3) := by decide +kernel
theorem dX12_init_160 : decode cX12_init 160 = .ok (.aload_n 0, 1) := by decide +kernel
theorem dX12_init_161 : decode cX12_init 161 = .ok (.iconst (-1), 1) := by decide +kernel
theorem dX12_init_162 : decode cX12_init 162 = .ok (.putfield 65, 3) := by decide +kernel
theorem dX12_init_165 : decode cX12_init 165 = .ok (.aload_n 0, 1) := by decide +kernel
theorem dX12_init_166 : decode cX12_init 166 = .ok (.iconst 5, 1) := by decide +kernel
theorem dX12_init_167 : decode cX12_init 167 = .ok (.anewarray 69, 3) := by decide +kernel
theorem dX12_init_170 : decode cX12_init 170 = .ok (.dup, 1) := by decide +kernel
theorem dX12_init_171 : decode cX12_init 171 = .ok (.iconst 0, 1) := by decide +kernel
theorem dX12_init_172 : decode cX12_init 172 = .ok (.ldc 71, 2) := by decide +kernel
theorem dX12_init_174 : decode cX12_init 174 = .ok (.aastore, 1) := by decide +kernel
theorem dX12_init_175 : decode cX12_init 175 = .ok (.dup, 1) := by decide +kernel
theorem dX12_init_176 : decode cX12_init 176 = .ok (.iconst 1, 1) := by decide +kernel
theorem dX12_init_177 : decode cX12_init 177 = .ok (.ldc 73, 2) := by decide +kernel
theorem dX12_init_179 : decode cX12_init 179 = .ok (.aastore, 1) := by decide +kernel
theorem dX12_init_180 : decode cX12_init 180 = .ok (.dup, 1) := by decide +kernel
theorem dX12_init_181 : decode cX12_init 181 = .ok (.iconst 2, 1) := by decide +kernel
theorem dX12_init_182 : decode cX12_init 182 = .ok (.ldc 75, 2) := by decide +kernel
theorem dX12_init_184 : decode cX12_init 184 = .ok (.aastore, 1) := by decide +kernel
theorem dX12_init_185 : decode cX12_init 185 = .ok (.dup, 1) := by decide +kernel
theorem dX12_init_186 : decode cX12_init 186 = .ok (.iconst 3, 1) := by decide +kernel
theorem dX12_init_187 : decode cX12_init 187 = .ok (.ldc 77, 2) := by decide +kernel
theorem dX12_init_189 : decode cX12_init 189 = .ok (.aastore, 1) := by decide +kernel
theorem dX12_init_190 : decode cX12_init 190 = .ok (.dup, 1) := by decide +kernel
theorem dX12_init_191 : decode cX12_init 191 = .ok (.iconst 4, 1) := by decide +kernel
theorem dX12_init_192 : decode cX12_init 192 = .ok (.ldc 79, 2) := by decide +kernel
theorem dX12_init_194 : decode cX12_init 194 = .ok (.aastore, 1) := by decide +kernel
theorem dX12_init_195 : decode cX12_init 195 = .ok (.putfield 81, 3) := by decide +kernel
theorem dX12_init_198 : decode cX12_init 198 = .ok (.aload_n 0, 1) := by decide +kernel
theorem dX12_init_199 : decode cX12_init 199 = .ok (.bipush 6, 2) := by decide +kernel
theorem dX12_init_201 : decode cX12_init 201 = .ok (.anewarray 69, 3) := by decide +kernel
theorem dX12_init_204 : decode cX12_init 204 = .ok (.dup, 1) := by decide +kernel
theorem dX12_init_205 : decode cX12_init 205 = .ok (.iconst 0, 1) := by decide +kernel
theorem dX12_init_206 : decode cX12_init 206 = .ok (.ldc 85, 2) := by decide +kernel
theorem dX12_init_208 : decode cX12_init 208 = .ok (.aastore, 1) := by decide +kernel
theorem dX12_init_209 : decode cX12_init 209 = .ok (.dup, 1) := by decide +kernel
theorem dX12_init_210 : decode cX12_init 210 = .ok (.iconst 1, 1) := by decide +kernel
theorem dX12_init_211 : decode cX12_init 211 = .ok (.ldc 87, 2) := by decide +kernel
theorem dX12_init_213 : decode cX12_init 213 = .ok (.aastore, 1) := by decide +kernel
theorem dX12_init_214 : decode cX12_init 214 = .ok (.dup, 1) := by decide +kernel
theorem dX12_init_215 : decode cX12_init 215 = .ok (.iconst 2, 1) := by decide +kernel
theorem dX12_init_216 : decode cX12_init 216 = .ok (.ldc 89, 2) := by decide +kernel
theorem dX12_init_218 : decode cX12_init 218 = .ok (.aastore, 1) := by decide +kernel
theorem dX12_init_219 : decode cX12_init 219 = .ok (.dup, 1) := by decide +kernel
theorem dX12_init_220 : decode cX12_init 220 = .ok (.iconst 3, 1) := by decide +kernel
theorem dX12_init_221 : decode cX12_init 221 = .ok (.ldc 91, 2) := by decide +kernel
theorem dX12_init_223 : decode cX12_init 223 = .ok (.aastore, 1) := by decide +kernel
theorem dX12_init_224 : decode cX12_init 224 = .ok (.dup, 1) := by decide +kernel
theorem dX12_init_225 : decode cX12_init 225 = .ok (.iconst 4, 1) := by decide +kernel
theorem dX12_init_226 : decode cX12_init 226 = .ok (.ldc 93, 2) := by decide +kernel
theorem dX12_init_228 : decode cX12_init 228 = .ok (.aastore, 1) := by decide +kernel
theorem dX12_init_229 : decode cX12_init 229 = .ok (.dup, 1) := by decide +kernel
theorem dX12_init_230 : decode cX12_init 230 = .ok (.iconst 5, 1) := by decide +kernel
theorem dX12_init_231 : decode cX12_init 231 = .ok (.ldc 95, 2) := by decide +kernel
theorem dX12_init_233 : decode cX12_init 233 = .ok (.aastore, 1) := by decide +kernel
theorem dX12_init_234 : decode cX12_init 234 = .ok (.putfield 97, 3) := by decide +kernel
theorem dX12_init_237 : decode cX12_init 237 = .ok (.aload_n 0, 1) := by decide +kernel
theorem dX12_init_238 : decode cX12_init 238 = .ok (.sipush 200, 3) := by decide +kernel
theorem dX12_init_241 : decode cX12_init 241 = .ok (.newarray .int, 2) := by decide +kernel
theorem dX12_init_243 : decode cX12_init 243 = .ok (.putfield 100, 3) := by decide +kernel
theorem dX12_init_246 : decode cX12_init 246 = .ok (.aload_n 0, 1) := by decide +kernel
theorem dX12_init_247 : decode cX12_init 247 = .ok (.sipush 200, 3) := by decide +kernel
theorem dX12_init_250 : decode cX12_init 250 = .ok (.newarray .long, 2) := by decide +kernel
theorem dX12_init_252 : decode cX12_init 252 = .ok (.putfield 103, 3) := by decide +kernel
theorem dX12_init_255 : decode cX12_init 255 = .ok (.aload_n 0, 1) := by decide +kernel
theorem dX12_init_256 : decode cX12_init 256 = .ok (.getfield 9, 3) := by decide +kernel
theorem dX12_init_259 : decode cX12_init 259 = .ok (.iconst 1, 1) := by decide +kernel
theorem dX12_init_260 : decode cX12_init 260 = .ok (.iconst 1, 1) := by decide +kernel
theorem dX12_init_261 : decode cX12_init 261 = .ok (.iastore, 1) := by decide +kernel
theorem dX12_init_262 : decode cX12_init 262 = .ok (.return_, 1) := by decide +kernel
theorem fi_X12_init : CdYI mX12_init := ⟨List.mem_of_getElem? (i := 1602) (by decide +kernel), List.mem_of_getElem? (i := 151) (by decide +kernel), List.mem_of_getElem? (i := 1603) (by decide +kernel), by decide +kernel, by decide +kernel, by decide, rfl, rfl⟩
def f_X12_init_237 (δ : DSt) (l0 : Nat) : Option DSt :=
  (cd_arr δ 0 200).bind fun δ53 =>
  (cd_pr δ53 12 l0 38 δ.1).bind fun δ54 =>
  (cd_arr δ54 2 200).bind fun δ55 =>
  (cd_pr δ55 12 l0 39 δ54.1).bind fun δ56 =>
  (cd_gr δ56 12 l0 0).bind fun v57 =>
  (cd_ai δ56 v57 1 1).bind fun δ58 =>
  some δ58
def f_X12_init_198 (δ : DSt) (l0 : Nat) : Option DSt :=
  (cd_arr δ 7 6).bind fun δ45 =>
  (cd_ss δ45 δ.1 0 35).bind fun δ46 =>
  (cd_ss δ46 δ.1 1 36).bind fun δ47 =>
  (cd_ss δ47 δ.1 2 37).bind fun δ48 =>
  (cd_ss δ48 δ.1 3 38).bind fun δ49 =>
  (cd_ss δ49 δ.1 4 39).bind fun δ50 =>
  (cd_ss δ50 δ.1 5 40).bind fun δ51 =>
  (cd_pr δ51 12 l0 37 δ.1).bind fun δ52 =>
  f_X12_init_237 δ52 l0
def f_X12_init_151 (δ : DSt) (l0 : Nat) : Option DSt :=
  (cd_arr δ 0 900).bind fun δ35 =>
  (cd_pr δ35 12 l0 26 δ.1).bind fun δ36 =>
  (cd_pi δ36 12 l0 34 (-1)).bind fun δ37 =>
  (cd_arr δ37 7 5).bind fun δ38 =>
  (cd_ss δ38 δ37.1 0 30).bind fun δ39 =>
  (cd_ss δ39 δ37.1 1 31).bind fun δ40 =>
  (cd_ss δ40 δ37.1 2 32).bind fun δ41 =>
  (cd_ss δ41 δ37.1 3 33).bind fun δ42 =>
  (cd_ss δ42 δ37.1 4 34).bind fun δ43 =>
  (cd_pr δ43 12 l0 36 δ37.1).bind fun δ44 =>
  f_X12_init_198 δ44 l0
def f_X12_init_102 (δ : DSt) (l0 : Nat) : Option DSt :=
  (cd_new δ 11).bind fun δ23 =>
  (f_X11_init δ23 δ.1).bind fun δ24 =>
  (cd_pr δ24 12 l0 18 δ.1).bind fun δ25 =>
  (cd_new δ25 11).bind fun δ26 =>
  (f_X11_init δ26 δ25.1).bind fun δ27 =>
  (cd_pr δ27 12 l0 19 δ25.1).bind fun δ28 =>
  (cd_arr δ28 0 361).bind fun δ29 =>
  (cd_pr δ29 12 l0 20 δ28.1).bind fun δ30 =>
  (cd_arr δ30 0 362).bind fun δ31 =>
  (cd_pr δ31 12 l0 21 δ30.1).bind fun δ32 =>
  (cd_arr δ32 0 2166).bind fun δ33 =>
  (cd_pr δ33 12 l0 24 δ32.1).bind fun δ34 =>
  f_X12_init_151 δ34 l0
def f_X12_init_49 (δ : DSt) (l0 : Nat) : Option DSt :=
  (cd_arr δ 0 160).bind fun δ11 =>
  (cd_pr δ11 12 l0 5 δ.1).bind fun δ12 =>
  (cd_arr δ12 0 6).bind fun δ13 =>
  (cd_pr δ13 12 l0 9 δ12.1).bind fun δ14 =>
  (cd_arr δ14 0 361).bind fun δ15 =>
  (cd_pr δ15 12 l0 10 δ14.1).bind fun δ16 =>
  (cd_arr δ16 0 361).bind fun δ17 =>
  (cd_pr δ17 12 l0 13 δ16.1).bind fun δ18 =>
  (cd_arr δ18 0 361).bind fun δ19 =>
  (cd_pr δ19 12 l0 14 δ18.1).bind fun δ20 =>
  (cd_arr δ20 0 362).bind fun δ21 =>
  (cd_pr δ21 12 l0 16 δ20.1).bind fun δ22 =>
  f_X12_init_102 δ22 l0
def f_X12_init (δ : DSt) (l0 : Nat) : Option DSt :=
  (cd_arr δ 0 527).bind fun δ1 =>
  (cd_pr δ1 12 l0 0 δ.1).bind fun δ2 =>
  (cd_arr δ2 0 527).bind fun δ3 =>
  (cd_pr δ3 12 l0 1 δ2.1).bind fun δ4 =>
  (cd_arr δ4 0 527).bind fun δ5 =>
  (cd_pr δ5 12 l0 2 δ4.1).bind fun δ6 =>
  (cd_arr δ6 0 5270).bind fun δ7 =>
  (cd_pr δ7 12 l0 3 δ6.1).bind fun δ8 =>
  (cd_arr δ8 0 160).bind fun δ9 =>
  (cd_pr δ9 12 l0 4 δ8.1).bind fun δ10 =>
  f_X12_init_49 δ10 l0
set_option maxRecDepth 100000 in
theorem t_X12_init_237 (G : MG) (d : Nat) (hd : 2 ≤ d) {c0 s0 : Nat} (δ : DSt) (l0 : Nat) : TrC G mX12_init d c0 s0 262 [] 237 [(0, .ref l0)] [] δ (f_X12_init_237 δ l0) := by
  show TrC G mX12_init d c0 s0 262 [] 237 [(0, .ref l0)] [] δ ((cd_arr δ 0 200).bind fun δ53 => (cd_pr δ53 12 l0 38 δ.1).bind fun δ54 => (cd_arr δ54 2 200).bind fun δ55 => (cd_pr δ55 12 l0 39 δ54.1).bind fun δ56 => (cd_gr δ56 12 l0 0).bind fun v57 => (cd_ai δ56 v57 1 1).bind fun δ58 => some δ58)
  refine tc_aload_n (i := 0) dX12_init_237 rfl ?_
  refine tc_sipush (v := 200) dX12_init_238 (by decide +kernel) ?_
  refine tc_arr (atype := .int) 0 (fun _ _ h => h) (by decide) hdf_0 (by decide) am_0 dX12_init_241 (fun δ53 => ?_)
  refine tc_putr 12 38 cf_X12_init_100 ir_12_38 (fun _ => rfl) (fun _ => rfl) dX12_init_243 (fun δ54 => ?_)
  refine tc_aload_n (i := 0) dX12_init_246 rfl ?_
  refine tc_sipush (v := 200) dX12_init_247 (by decide +kernel) ?_
  refine tc_arr (atype := .long) 2 (fun _ _ h => h) (by decide) hdf_2 (by decide) am_2 dX12_init_250 (fun δ55 => ?_)
  refine tc_putr 12 39 cf_X12_init_103 ir_12_39 (fun _ => rfl) (fun _ => rfl) dX12_init_252 (fun δ56 => ?_)
  refine tc_aload_n (i := 0) dX12_init_255 rfl ?_
  refine tc_getr 12 0 gf_X12_init_9 ir_12_0 dX12_init_256 (fun v57 => ?_)
  refine tc_iconst (v := 1) dX12_init_259 (by decide +kernel) ?_
  refine tc_iconst (v := 1) dX12_init_260 (by decide +kernel) ?_
  refine tc_ai dX12_init_261 (fun δ58 => ?_)
  refine tc_weak [] (lv' := []) rfl ?_
  exact tc_end
set_option maxRecDepth 100000 in
theorem t_X12_init_198 (G : MG) (d : Nat) (hd : 2 ≤ d) {c0 s0 : Nat} (δ : DSt) (l0 : Nat) : TrC G mX12_init d c0 s0 262 [] 198 [(0, .ref l0)] [] δ (f_X12_init_198 δ l0) := by
  show TrC G mX12_init d c0 s0 262 [] 198 [(0, .ref l0)] [] δ ((cd_arr δ 7 6).bind fun δ45 => (cd_ss δ45 δ.1 0 35).bind fun δ46 => (cd_ss δ46 δ.1 1 36).bind fun δ47 => (cd_ss δ47 δ.1 2 37).bind fun δ48 => (cd_ss δ48 δ.1 3 38).bind fun δ49 => (cd_ss δ49 δ.1 4 39).bind fun δ50 => (cd_ss δ50 δ.1 5 40).bind fun δ51 => (cd_pr δ51 12 l0 37 δ.1).bind fun δ52 => f_X12_init_237 δ52 l0)
  refine tc_aload_n (i := 0) dX12_init_198 rfl ?_
  refine tc_bipush (v := 6) dX12_init_199 (by decide +kernel) ?_
  refine tc_anew 7 "java/lang/String" (by decide) (by decide) rfl ac_X12_69 dX12_init_201 (fun δ45 => ?_)
  refine tc_dup dX12_init_204 rfl ?_
  refine tc_iconst (v := 0) dX12_init_205 (by decide +kernel) ?_
  refine tc_ldcs 35 (tx := "place") (by decide) (by decide +kernel) dX12_init_206 ?_
  refine tc_ss dX12_init_208 (fun δ46 => ?_)
  refine tc_dup dX12_init_209 rfl ?_
  refine tc_iconst (v := 1) dX12_init_210 (by decide +kernel) ?_
  refine tc_ldcs 36 (tx := "sign") (by decide) (by decide +kernel) dX12_init_211 ?_
  refine tc_ss dX12_init_213 (fun δ47 => ?_)
  refine tc_dup dX12_init_214 rfl ?_
  refine tc_iconst (v := 2) dX12_init_215 (by decide +kernel) ?_
  refine tc_ldcs 37 (tx := "kind") (by decide) (by decide +kernel) dX12_init_216 ?_
  refine tc_ss dX12_init_218 (fun δ48 => ?_)
  refine tc_dup dX12_init_219 rfl ?_
  refine tc_iconst (v := 3) dX12_init_220 (by decide +kernel) ?_
  refine tc_ldcs 38 (tx := "class") (by decide) (by decide +kernel) dX12_init_221 ?_
  refine tc_ss dX12_init_223 (fun δ49 => ?_)
  refine tc_dup dX12_init_224 rfl ?_
  refine tc_iconst (v := 4) dX12_init_225 (by decide +kernel) ?_
  refine tc_ldcs 39 (tx := "parts") (by decide) (by decide +kernel) dX12_init_226 ?_
  refine tc_ss dX12_init_228 (fun δ50 => ?_)
  refine tc_dup dX12_init_229 rfl ?_
  refine tc_iconst (v := 5) dX12_init_230 (by decide +kernel) ?_
  refine tc_ldcs 40 (tx := "cluster") (by decide) (by decide +kernel) dX12_init_231 ?_
  refine tc_ss dX12_init_233 (fun δ51 => ?_)
  refine tc_putr 12 37 cf_X12_init_97 ir_12_37 (fun _ => rfl) (fun _ => rfl) dX12_init_234 (fun δ52 => ?_)
  exact t_X12_init_237 G d hd δ52 l0
set_option maxRecDepth 100000 in
theorem t_X12_init_151 (G : MG) (d : Nat) (hd : 2 ≤ d) {c0 s0 : Nat} (δ : DSt) (l0 : Nat) : TrC G mX12_init d c0 s0 262 [] 151 [(0, .ref l0)] [] δ (f_X12_init_151 δ l0) := by
  show TrC G mX12_init d c0 s0 262 [] 151 [(0, .ref l0)] [] δ ((cd_arr δ 0 900).bind fun δ35 => (cd_pr δ35 12 l0 26 δ.1).bind fun δ36 => (cd_pi δ36 12 l0 34 (-1)).bind fun δ37 => (cd_arr δ37 7 5).bind fun δ38 => (cd_ss δ38 δ37.1 0 30).bind fun δ39 => (cd_ss δ39 δ37.1 1 31).bind fun δ40 => (cd_ss δ40 δ37.1 2 32).bind fun δ41 => (cd_ss δ41 δ37.1 3 33).bind fun δ42 => (cd_ss δ42 δ37.1 4 34).bind fun δ43 => (cd_pr δ43 12 l0 36 δ37.1).bind fun δ44 => f_X12_init_198 δ44 l0)
  refine tc_aload_n (i := 0) dX12_init_151 rfl ?_
  refine tc_sipush (v := 900) dX12_init_152 (by decide +kernel) ?_
  refine tc_arr (atype := .int) 0 (fun _ _ h => h) (by decide) hdf_0 (by decide) am_0 dX12_init_155 (fun δ35 => ?_)
  refine tc_putr 12 26 cf_X12_init_62 ir_12_26 (fun _ => rfl) (fun _ => rfl) dX12_init_157 (fun δ36 => ?_)
  refine tc_aload_n (i := 0) dX12_init_160 rfl ?_
  refine tc_iconst (v := (-1)) dX12_init_161 (by decide +kernel) ?_
  refine tc_puti 12 34 cf_X12_init_65 ii_12_34 (by decide +kernel) (by decide +kernel) dX12_init_162 (fun δ37 => ?_)
  refine tc_aload_n (i := 0) dX12_init_165 rfl ?_
  refine tc_iconst (v := 5) dX12_init_166 (by decide +kernel) ?_
  refine tc_anew 7 "java/lang/String" (by decide) (by decide) rfl ac_X12_69 dX12_init_167 (fun δ38 => ?_)
  refine tc_dup dX12_init_170 rfl ?_
  refine tc_iconst (v := 0) dX12_init_171 (by decide +kernel) ?_
  refine tc_ldcs 30 (tx := "base") (by decide) (by decide +kernel) dX12_init_172 ?_
  refine tc_ss dX12_init_174 (fun δ39 => ?_)
  refine tc_dup dX12_init_175 rfl ?_
  refine tc_iconst (v := 1) dX12_init_176 (by decide +kernel) ?_
  refine tc_ldcs 31 (tx := "mark") (by decide) (by decide +kernel) dX12_init_177 ?_
  refine tc_ss dX12_init_179 (fun δ40 => ?_)
  refine tc_dup dX12_init_180 rfl ?_
  refine tc_iconst (v := 2) dX12_init_181 (by decide +kernel) ?_
  refine tc_ldcs 32 (tx := "pair") (by decide) (by decide +kernel) dX12_init_182 ?_
  refine tc_ss dX12_init_184 (fun δ41 => ?_)
  refine tc_dup dX12_init_185 rfl ?_
  refine tc_iconst (v := 3) dX12_init_186 (by decide +kernel) ?_
  refine tc_ldcs 33 (tx := "line") (by decide) (by decide +kernel) dX12_init_187 ?_
  refine tc_ss dX12_init_189 (fun δ42 => ?_)
  refine tc_dup dX12_init_190 rfl ?_
  refine tc_iconst (v := 4) dX12_init_191 (by decide +kernel) ?_
  refine tc_ldcs 34 (tx := "hand") (by decide) (by decide +kernel) dX12_init_192 ?_
  refine tc_ss dX12_init_194 (fun δ43 => ?_)
  refine tc_putr 12 36 cf_X12_init_81 ir_12_36 (fun _ => rfl) (fun _ => rfl) dX12_init_195 (fun δ44 => ?_)
  exact t_X12_init_198 G d hd δ44 l0
set_option maxRecDepth 100000 in
theorem t_X12_init_102 (G : MG) (d : Nat) (hd : 2 ≤ d) {c0 s0 : Nat} (δ : DSt) (l0 : Nat) : TrC G mX12_init d c0 s0 262 [] 102 [(0, .ref l0)] [] δ (f_X12_init_102 δ l0) := by
  show TrC G mX12_init d c0 s0 262 [] 102 [(0, .ref l0)] [] δ ((cd_new δ 11).bind fun δ23 => (f_X11_init δ23 δ.1).bind fun δ24 => (cd_pr δ24 12 l0 18 δ.1).bind fun δ25 => (cd_new δ25 11).bind fun δ26 => (f_X11_init δ26 δ25.1).bind fun δ27 => (cd_pr δ27 12 l0 19 δ25.1).bind fun δ28 => (cd_arr δ28 0 361).bind fun δ29 => (cd_pr δ29 12 l0 20 δ28.1).bind fun δ30 => (cd_arr δ30 0 362).bind fun δ31 => (cd_pr δ31 12 l0 21 δ30.1).bind fun δ32 => (cd_arr δ32 0 2166).bind fun δ33 => (cd_pr δ33 12 l0 24 δ32.1).bind fun δ34 => f_X12_init_151 δ34 l0)
  refine tc_aload_n (i := 0) dX12_init_102 rfl ?_
  refine tc_new 11 (RX11, TX11, 6) rfl nw_X12_43 ni_11 nn_11 dX12_init_103 (fun δ23 => ?_)
  refine tc_dup dX12_init_106 rfl ?_
  refine tc_init (rest := [.ref δ.1, .ref l0]) (al := []) (sp_X11_init G (d - 1) (by omega) δ23 δ.1) lk_X12_45 fi_X11_init dX12_init_107 (show _ = some 0 by decide +kernel) (by omega) (Nat.le_of_ble_eq_true rfl) (fun δ24 => ?_)
  refine tc_putr 12 18 cf_X12_init_46 ir_12_18 (fun _ => rfl) (fun _ => rfl) dX12_init_110 (fun δ25 => ?_)
  refine tc_aload_n (i := 0) dX12_init_113 rfl ?_
  refine tc_new 11 (RX11, TX11, 6) rfl nw_X12_43 ni_11 nn_11 dX12_init_114 (fun δ26 => ?_)
  refine tc_dup dX12_init_117 rfl ?_
  refine tc_init (rest := [.ref δ25.1, .ref l0]) (al := []) (sp_X11_init G (d - 1) (by omega) δ26 δ25.1) lk_X12_45 fi_X11_init dX12_init_118 (show _ = some 0 by decide +kernel) (by omega) (Nat.le_of_ble_eq_true rfl) (fun δ27 => ?_)
  refine tc_putr 12 19 cf_X12_init_50 ir_12_19 (fun _ => rfl) (fun _ => rfl) dX12_init_121 (fun δ28 => ?_)
  refine tc_aload_n (i := 0) dX12_init_124 rfl ?_
  refine tc_sipush (v := 361) dX12_init_125 (by decide +kernel) ?_
  refine tc_arr (atype := .int) 0 (fun _ _ h => h) (by decide) hdf_0 (by decide) am_0 dX12_init_128 (fun δ29 => ?_)
  refine tc_putr 12 20 cf_X12_init_53 ir_12_20 (fun _ => rfl) (fun _ => rfl) dX12_init_130 (fun δ30 => ?_)
  refine tc_aload_n (i := 0) dX12_init_133 rfl ?_
  refine tc_sipush (v := 362) dX12_init_134 (by decide +kernel) ?_
  refine tc_arr (atype := .int) 0 (fun _ _ h => h) (by decide) hdf_0 (by decide) am_0 dX12_init_137 (fun δ31 => ?_)
  refine tc_putr 12 21 cf_X12_init_56 ir_12_21 (fun _ => rfl) (fun _ => rfl) dX12_init_139 (fun δ32 => ?_)
  refine tc_aload_n (i := 0) dX12_init_142 rfl ?_
  refine tc_sipush (v := 2166) dX12_init_143 (by decide +kernel) ?_
  refine tc_arr (atype := .int) 0 (fun _ _ h => h) (by decide) hdf_0 (by decide) am_0 dX12_init_146 (fun δ33 => ?_)
  refine tc_putr 12 24 cf_X12_init_59 ir_12_24 (fun _ => rfl) (fun _ => rfl) dX12_init_148 (fun δ34 => ?_)
  exact t_X12_init_151 G d hd δ34 l0
set_option maxRecDepth 100000 in
theorem t_X12_init_49 (G : MG) (d : Nat) (hd : 2 ≤ d) {c0 s0 : Nat} (δ : DSt) (l0 : Nat) : TrC G mX12_init d c0 s0 262 [] 49 [(0, .ref l0)] [] δ (f_X12_init_49 δ l0) := by
  show TrC G mX12_init d c0 s0 262 [] 49 [(0, .ref l0)] [] δ ((cd_arr δ 0 160).bind fun δ11 => (cd_pr δ11 12 l0 5 δ.1).bind fun δ12 => (cd_arr δ12 0 6).bind fun δ13 => (cd_pr δ13 12 l0 9 δ12.1).bind fun δ14 => (cd_arr δ14 0 361).bind fun δ15 => (cd_pr δ15 12 l0 10 δ14.1).bind fun δ16 => (cd_arr δ16 0 361).bind fun δ17 => (cd_pr δ17 12 l0 13 δ16.1).bind fun δ18 => (cd_arr δ18 0 361).bind fun δ19 => (cd_pr δ19 12 l0 14 δ18.1).bind fun δ20 => (cd_arr δ20 0 362).bind fun δ21 => (cd_pr δ21 12 l0 16 δ20.1).bind fun δ22 => f_X12_init_102 δ22 l0)
  refine tc_aload_n (i := 0) dX12_init_49 rfl ?_
  refine tc_sipush (v := 160) dX12_init_50 (by decide +kernel) ?_
  refine tc_arr (atype := .int) 0 (fun _ _ h => h) (by decide) hdf_0 (by decide) am_0 dX12_init_53 (fun δ11 => ?_)
  refine tc_putr 12 5 cf_X12_init_25 ir_12_5 (fun _ => rfl) (fun _ => rfl) dX12_init_55 (fun δ12 => ?_)
  refine tc_aload_n (i := 0) dX12_init_58 rfl ?_
  refine tc_bipush (v := 6) dX12_init_59 (by decide +kernel) ?_
  refine tc_arr (atype := .int) 0 (fun _ _ h => h) (by decide) hdf_0 (by decide) am_0 dX12_init_61 (fun δ13 => ?_)
  refine tc_putr 12 9 cf_X12_init_28 ir_12_9 (fun _ => rfl) (fun _ => rfl) dX12_init_63 (fun δ14 => ?_)
  refine tc_aload_n (i := 0) dX12_init_66 rfl ?_
  refine tc_sipush (v := 361) dX12_init_67 (by decide +kernel) ?_
  refine tc_arr (atype := .int) 0 (fun _ _ h => h) (by decide) hdf_0 (by decide) am_0 dX12_init_70 (fun δ15 => ?_)
  refine tc_putr 12 10 cf_X12_init_31 ir_12_10 (fun _ => rfl) (fun _ => rfl) dX12_init_72 (fun δ16 => ?_)
  refine tc_aload_n (i := 0) dX12_init_75 rfl ?_
  refine tc_sipush (v := 361) dX12_init_76 (by decide +kernel) ?_
  refine tc_arr (atype := .int) 0 (fun _ _ h => h) (by decide) hdf_0 (by decide) am_0 dX12_init_79 (fun δ17 => ?_)
  refine tc_putr 12 13 cf_X12_init_34 ir_12_13 (fun _ => rfl) (fun _ => rfl) dX12_init_81 (fun δ18 => ?_)
  refine tc_aload_n (i := 0) dX12_init_84 rfl ?_
  refine tc_sipush (v := 361) dX12_init_85 (by decide +kernel) ?_
  refine tc_arr (atype := .int) 0 (fun _ _ h => h) (by decide) hdf_0 (by decide) am_0 dX12_init_88 (fun δ19 => ?_)
  refine tc_putr 12 14 cf_X12_init_37 ir_12_14 (fun _ => rfl) (fun _ => rfl) dX12_init_90 (fun δ20 => ?_)
  refine tc_aload_n (i := 0) dX12_init_93 rfl ?_
  refine tc_sipush (v := 362) dX12_init_94 (by decide +kernel) ?_
  refine tc_arr (atype := .int) 0 (fun _ _ h => h) (by decide) hdf_0 (by decide) am_0 dX12_init_97 (fun δ21 => ?_)
  refine tc_putr 12 16 cf_X12_init_40 ir_12_16 (fun _ => rfl) (fun _ => rfl) dX12_init_99 (fun δ22 => ?_)
  exact t_X12_init_102 G d hd δ22 l0
set_option maxRecDepth 100000 in
theorem sp_X12_init (G : MG) (d : Nat) (hd : 2 ≤ d) (δ : DSt) (l0 : Nat) : CdSpec G mX12_init d [.ref l0] δ (f_X12_init δ l0) := by
  refine tc_start (pc2 := 262) (lv2 := []) (by decide +kernel) rfl rfl rfl (Nat.le_of_ble_eq_true rfl) dX12_init_262 ?_
  show TrC G mX12_init d δ.1 (cd_z δ.1) 262 [] 0 [(0, .ref l0)] [] δ ((cd_arr δ 0 527).bind fun δ1 => (cd_pr δ1 12 l0 0 δ.1).bind fun δ2 => (cd_arr δ2 0 527).bind fun δ3 => (cd_pr δ3 12 l0 1 δ2.1).bind fun δ4 => (cd_arr δ4 0 527).bind fun δ5 => (cd_pr δ5 12 l0 2 δ4.1).bind fun δ6 => (cd_arr δ6 0 5270).bind fun δ7 => (cd_pr δ7 12 l0 3 δ6.1).bind fun δ8 => (cd_arr δ8 0 160).bind fun δ9 => (cd_pr δ9 12 l0 4 δ8.1).bind fun δ10 => f_X12_init_49 δ10 l0)
  refine tc_aload_n (i := 0) dX12_init_0 rfl ?_
  refine tc_obj ob_X12 oi_1 oi_2 (by omega) (Nat.le_of_ble_eq_true rfl) dX12_init_1 ?_
  refine tc_aload_n (i := 0) dX12_init_4 rfl ?_
  refine tc_sipush (v := 527) dX12_init_5 (by decide +kernel) ?_
  refine tc_arr (atype := .int) 0 (fun _ _ h => h) (by decide) hdf_0 (by decide) am_0 dX12_init_8 (fun δ1 => ?_)
  refine tc_putr 12 0 cf_X12_init_9 ir_12_0 (fun _ => rfl) (fun _ => rfl) dX12_init_10 (fun δ2 => ?_)
  refine tc_aload_n (i := 0) dX12_init_13 rfl ?_
  refine tc_sipush (v := 527) dX12_init_14 (by decide +kernel) ?_
  refine tc_arr (atype := .int) 0 (fun _ _ h => h) (by decide) hdf_0 (by decide) am_0 dX12_init_17 (fun δ3 => ?_)
  refine tc_putr 12 1 cf_X12_init_13 ir_12_1 (fun _ => rfl) (fun _ => rfl) dX12_init_19 (fun δ4 => ?_)
  refine tc_aload_n (i := 0) dX12_init_22 rfl ?_
  refine tc_sipush (v := 527) dX12_init_23 (by decide +kernel) ?_
  refine tc_arr (atype := .int) 0 (fun _ _ h => h) (by decide) hdf_0 (by decide) am_0 dX12_init_26 (fun δ5 => ?_)
  refine tc_putr 12 2 cf_X12_init_16 ir_12_2 (fun _ => rfl) (fun _ => rfl) dX12_init_28 (fun δ6 => ?_)
  refine tc_aload_n (i := 0) dX12_init_31 rfl ?_
  refine tc_sipush (v := 5270) dX12_init_32 (by decide +kernel) ?_
  refine tc_arr (atype := .int) 0 (fun _ _ h => h) (by decide) hdf_0 (by decide) am_0 dX12_init_35 (fun δ7 => ?_)
  refine tc_putr 12 3 cf_X12_init_19 ir_12_3 (fun _ => rfl) (fun _ => rfl) dX12_init_37 (fun δ8 => ?_)
  refine tc_aload_n (i := 0) dX12_init_40 rfl ?_
  refine tc_sipush (v := 160) dX12_init_41 (by decide +kernel) ?_
  refine tc_arr (atype := .int) 0 (fun _ _ h => h) (by decide) hdf_0 (by decide) am_0 dX12_init_44 (fun δ9 => ?_)
  refine tc_putr 12 4 cf_X12_init_22 ir_12_4 (fun _ => rfl) (fun _ => rfl) dX12_init_46 (fun δ10 => ?_)
  exact t_X12_init_49 G d hd δ10 l0
