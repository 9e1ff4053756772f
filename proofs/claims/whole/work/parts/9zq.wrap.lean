/-! the law's own wrappers, by program (wip/whole/gen/law.py) -/
theorem kd_0 : ms_kd 0 = 11 := by decide +kernel
theorem kd_493 : ms_kd 493 = 13 := by decide +kernel
theorem kd_517 : ms_kd 517 = 22 := by decide +kernel
theorem kd_518 : ms_kd 518 = 23 := by decide +kernel
def hn_n : Nat → Option Int32 := fun e => if e = 0 then some 1 else none
def hn_i : Nat → Option Int32 := fun e => if e = 1 then some 1 else none
def hn_b : Nat → Option Int32 := fun e => if e = 0 then some 1 else if e = 1 then some 2 else none
theorem hn_nc {M : MM} {G : MG} {pc : Nat} (h0 : MsCatch M G pc 0 1) : ∀ e v, hn_n e = some v → MsCatch M G pc e v := by
  intro e v h
  unfold hn_n at h
  by_cases h1 : e = 0
  · rw [if_pos h1] at h; cases h; rw [h1]; exact h0
  · rw [if_neg h1] at h; cases h
theorem hn_ic {M : MM} {G : MG} {pc : Nat} (h0 : MsCatch M G pc 1 1) : ∀ e v, hn_i e = some v → MsCatch M G pc e v := by
  intro e v h
  unfold hn_i at h
  by_cases h1 : e = 1
  · rw [if_pos h1] at h; cases h; rw [h1]; exact h0
  · rw [if_neg h1] at h; cases h
theorem hn_bc {M : MM} {G : MG} {pc : Nat} (h0 : MsCatch M G pc 0 1) (h2 : MsCatch M G pc 1 2) : ∀ e v, hn_b e = some v → MsCatch M G pc e v := by
  intro e v h
  unfold hn_b at h
  by_cases h1 : e = 0
  · rw [if_pos h1] at h; cases h; rw [h1]; exact h0
  · rw [if_neg h1] at h
    by_cases h3 : e = 1
    · rw [if_pos h3] at h; cases h; rw [h3]; exact h2
    · rw [if_neg h3] at h; cases h
theorem kl_L_7 : Cond.methodLink RL 7 yX10_load ∈ lw_tbl := List.mem_of_getElem? (i := 679) (by decide +kernel)
theorem kl_L_15 : Cond.methodLink RL 15 yX10_size ∈ lw_tbl := List.mem_of_getElem? (i := 983) (by decide +kernel)
theorem kl_L_20 : Cond.methodLink RL 20 yX10_sign ∈ lw_tbl := List.mem_of_getElem? (i := 1017) (by decide +kernel)
theorem kl_L_24 : Cond.methodLink RL 24 yX10_letter ∈ lw_tbl := List.mem_of_getElem? (i := 1041) (by decide +kernel)
theorem kl_L_27 : Cond.methodLink RL 27 yX10_expanded ∈ lw_tbl := List.mem_of_getElem? (i := 1053) (by decide +kernel)
theorem kl_L_30 : Cond.methodLink RL 30 yX10_pairOf ∈ lw_tbl := List.mem_of_getElem? (i := 1065) (by decide +kernel)
theorem kl_L_33 : Cond.methodLink RL 33 yX10_used ∈ lw_tbl := List.mem_of_getElem? (i := 1073) (by decide +kernel)
theorem kl_L_36 : Cond.methodLink RL 36 yX10_recomposed ∈ lw_tbl := List.mem_of_getElem? (i := 1084) (by decide +kernel)
theorem kl_L_39 : Cond.methodLink RL 39 yX10_line ∈ lw_tbl := List.mem_of_getElem? (i := 1138) (by decide +kernel)
theorem kl_L_42 : Cond.methodLink RL 42 yX10_at ∈ lw_tbl := List.mem_of_getElem? (i := 1230) (by decide +kernel)
theorem kl_L_46 : Cond.methodLink RL 46 yX10_unlike ∈ lw_tbl := List.mem_of_getElem? (i := 1241) (by decide +kernel)
theorem kl_L_49 : Cond.methodLink RL 49 yX10_clusterOf ∈ lw_tbl := List.mem_of_getElem? (i := 1252) (by decide +kernel)
theorem kl_L_52 : Cond.methodLink RL 52 yX10_cluster ∈ lw_tbl := List.mem_of_getElem? (i := 1264) (by decide +kernel)
theorem kl_L_55 : Cond.methodLink RL 55 yX10_box ∈ lw_tbl := List.mem_of_getElem? (i := 1279) (by decide +kernel)
theorem kl_L_59 : Cond.methodLink RL 59 yX10_spellings ∈ lw_tbl := List.mem_of_getElem? (i := 1286) (by decide +kernel)
theorem kl_L_63 : Cond.methodLink RL 63 yX10_clashes ∈ lw_tbl := List.mem_of_getElem? (i := 1298) (by decide +kernel)
theorem kl_L_67 : Cond.methodLink RL 67 yX10_fullest ∈ lw_tbl := List.mem_of_getElem? (i := 1305) (by decide +kernel)
theorem kl_L_70 : Cond.methodLink RL 70 yX10_compare ∈ lw_tbl := List.mem_of_getElem? (i := 1312) (by decide +kernel)
theorem kl_L_73 : Cond.methodLink RL 73 yX10_areBare ∈ lw_tbl := List.mem_of_getElem? (i := 1323) (by decide +kernel)
theorem kl_L_76 : Cond.methodLink RL 76 yX10_matches ∈ lw_tbl := List.mem_of_getElem? (i := 1338) (by decide +kernel)
theorem kl_L_80 : Cond.methodLink RL 80 yX10_match ∈ lw_tbl := List.mem_of_getElem? (i := 1345) (by decide +kernel)
theorem kl_L_84 : Cond.methodLink RL 84 yX10_saved ∈ lw_tbl := List.mem_of_getElem? (i := 1353) (by decide +kernel)
theorem kl_L_87 : Cond.methodLink RL 87 yX10_bestClass ∈ lw_tbl := List.mem_of_getElem? (i := 1361) (by decide +kernel)
theorem kl_L_90 : Cond.methodLink RL 90 yX10_meanMarks ∈ lw_tbl := List.mem_of_getElem? (i := 1373) (by decide +kernel)
theorem kl_L_94 : Cond.methodLink RL 94 yX10_shortness ∈ lw_tbl := List.mem_of_getElem? (i := 1380) (by decide +kernel)
theorem kl_L_98 : Cond.methodLink RL 98 yX10_hand ∈ lw_tbl := List.mem_of_getElem? (i := 1387) (by decide +kernel)
theorem kl_L_101 : Cond.methodLink RL 101 yX10_type ∈ lw_tbl := List.mem_of_getElem? (i := 1400) (by decide +kernel)
theorem kl_L_104 : Cond.methodLink RL 104 yX10_erase ∈ lw_tbl := List.mem_of_getElem? (i := 1416) (by decide +kernel)
theorem kl_L_107 : Cond.methodLink RL 107 yX10_stack ∈ lw_tbl := List.mem_of_getElem? (i := 1427) (by decide +kernel)
theorem kl_L_110 : Cond.methodLink RL 110 yX10_strip ∈ lw_tbl := List.mem_of_getElem? (i := 1441) (by decide +kernel)
theorem kl_L_113 : Cond.methodLink RL 113 yX10_decompose ∈ lw_tbl := List.mem_of_getElem? (i := 1460) (by decide +kernel)
theorem kl_L_116 : Cond.methodLink RL 116 yX10_compose ∈ lw_tbl := List.mem_of_getElem? (i := 1471) (by decide +kernel)
theorem kl_L_119 : Cond.methodLink RL 119 yX10_join ∈ lw_tbl := List.mem_of_getElem? (i := 1478) (by decide +kernel)
theorem kl_L_122 : Cond.methodLink RL 122 yX10_setClass ∈ lw_tbl := List.mem_of_getElem? (i := 1486) (by decide +kernel)
theorem kl_L_125 : Cond.methodLink RL 125 yX10_setSpare ∈ lw_tbl := List.mem_of_getElem? (i := 1493) (by decide +kernel)
theorem kl_L_129 : Cond.methodLink RL 129 yX10_format ∈ lw_tbl := List.mem_of_getElem? (i := 1500) (by decide +kernel)
theorem kl_L_132 : Cond.methodLink RL 132 yX10_query ∈ lw_tbl := List.mem_of_getElem? (i := 1511) (by decide +kernel)
theorem fv_X10_areBare : MsYV mX10_areBare := ⟨List.mem_of_getElem? (i := 1324) (by decide +kernel), List.mem_of_getElem? (i := 1325) (by decide +kernel), List.mem_of_getElem? (i := 139) (by decide +kernel), List.mem_of_getElem? (i := 1326) (by decide +kernel), by decide +kernel, by decide +kernel, by decide⟩
theorem fv_X10_at : MsYV mX10_at := ⟨List.mem_of_getElem? (i := 1231) (by decide +kernel), List.mem_of_getElem? (i := 1232) (by decide +kernel), List.mem_of_getElem? (i := 139) (by decide +kernel), List.mem_of_getElem? (i := 1233) (by decide +kernel), by decide +kernel, by decide +kernel, by decide⟩
theorem fv_X10_bestClass : MsYV mX10_bestClass := ⟨List.mem_of_getElem? (i := 1362) (by decide +kernel), List.mem_of_getElem? (i := 1363) (by decide +kernel), List.mem_of_getElem? (i := 139) (by decide +kernel), List.mem_of_getElem? (i := 1364) (by decide +kernel), by decide +kernel, by decide +kernel, by decide⟩
theorem fv_X10_box : MsYV mX10_box := ⟨List.mem_of_getElem? (i := 1280) (by decide +kernel), List.mem_of_getElem? (i := 1281) (by decide +kernel), List.mem_of_getElem? (i := 139) (by decide +kernel), List.mem_of_getElem? (i := 1282) (by decide +kernel), by decide +kernel, by decide +kernel, by decide⟩
theorem fv_X10_clashes : MsYV mX10_clashes := ⟨List.mem_of_getElem? (i := 1299) (by decide +kernel), List.mem_of_getElem? (i := 1300) (by decide +kernel), List.mem_of_getElem? (i := 139) (by decide +kernel), List.mem_of_getElem? (i := 1301) (by decide +kernel), by decide +kernel, by decide +kernel, by decide⟩
theorem fv_X10_cluster : MsYV mX10_cluster := ⟨List.mem_of_getElem? (i := 1265) (by decide +kernel), List.mem_of_getElem? (i := 1266) (by decide +kernel), List.mem_of_getElem? (i := 139) (by decide +kernel), List.mem_of_getElem? (i := 1267) (by decide +kernel), by decide +kernel, by decide +kernel, by decide⟩
theorem fv_X10_clusterOf : MsYV mX10_clusterOf := ⟨List.mem_of_getElem? (i := 1253) (by decide +kernel), List.mem_of_getElem? (i := 1254) (by decide +kernel), List.mem_of_getElem? (i := 139) (by decide +kernel), List.mem_of_getElem? (i := 1255) (by decide +kernel), by decide +kernel, by decide +kernel, by decide⟩
theorem fv_X10_compare : MsYV mX10_compare := ⟨List.mem_of_getElem? (i := 1313) (by decide +kernel), List.mem_of_getElem? (i := 1314) (by decide +kernel), List.mem_of_getElem? (i := 139) (by decide +kernel), List.mem_of_getElem? (i := 1315) (by decide +kernel), by decide +kernel, by decide +kernel, by decide⟩
theorem fv_X10_compose : MsYV mX10_compose := ⟨List.mem_of_getElem? (i := 1472) (by decide +kernel), List.mem_of_getElem? (i := 1473) (by decide +kernel), List.mem_of_getElem? (i := 139) (by decide +kernel), List.mem_of_getElem? (i := 1474) (by decide +kernel), by decide +kernel, by decide +kernel, by decide⟩
theorem fv_X10_decompose : MsYV mX10_decompose := ⟨List.mem_of_getElem? (i := 1461) (by decide +kernel), List.mem_of_getElem? (i := 1462) (by decide +kernel), List.mem_of_getElem? (i := 139) (by decide +kernel), List.mem_of_getElem? (i := 1463) (by decide +kernel), by decide +kernel, by decide +kernel, by decide⟩
theorem fv_X10_erase : MsYV mX10_erase := ⟨List.mem_of_getElem? (i := 1417) (by decide +kernel), List.mem_of_getElem? (i := 1418) (by decide +kernel), List.mem_of_getElem? (i := 139) (by decide +kernel), List.mem_of_getElem? (i := 1419) (by decide +kernel), by decide +kernel, by decide +kernel, by decide⟩
theorem fv_X10_expanded : MsYV mX10_expanded := ⟨List.mem_of_getElem? (i := 1054) (by decide +kernel), List.mem_of_getElem? (i := 1055) (by decide +kernel), List.mem_of_getElem? (i := 139) (by decide +kernel), List.mem_of_getElem? (i := 1056) (by decide +kernel), by decide +kernel, by decide +kernel, by decide⟩
theorem fv_X10_format : MsYV mX10_format := ⟨List.mem_of_getElem? (i := 1501) (by decide +kernel), List.mem_of_getElem? (i := 1502) (by decide +kernel), List.mem_of_getElem? (i := 139) (by decide +kernel), List.mem_of_getElem? (i := 1503) (by decide +kernel), by decide +kernel, by decide +kernel, by decide⟩
theorem fv_X10_fullest : MsYV mX10_fullest := ⟨List.mem_of_getElem? (i := 1306) (by decide +kernel), List.mem_of_getElem? (i := 1307) (by decide +kernel), List.mem_of_getElem? (i := 139) (by decide +kernel), List.mem_of_getElem? (i := 1308) (by decide +kernel), by decide +kernel, by decide +kernel, by decide⟩
theorem fv_X10_hand : MsYV mX10_hand := ⟨List.mem_of_getElem? (i := 1388) (by decide +kernel), List.mem_of_getElem? (i := 1389) (by decide +kernel), List.mem_of_getElem? (i := 139) (by decide +kernel), List.mem_of_getElem? (i := 1390) (by decide +kernel), by decide +kernel, by decide +kernel, by decide⟩
theorem fv_X10_join : MsYV mX10_join := ⟨List.mem_of_getElem? (i := 1479) (by decide +kernel), List.mem_of_getElem? (i := 1480) (by decide +kernel), List.mem_of_getElem? (i := 139) (by decide +kernel), List.mem_of_getElem? (i := 1481) (by decide +kernel), by decide +kernel, by decide +kernel, by decide⟩
theorem fv_X10_letter : MsYV mX10_letter := ⟨List.mem_of_getElem? (i := 1042) (by decide +kernel), List.mem_of_getElem? (i := 1043) (by decide +kernel), List.mem_of_getElem? (i := 139) (by decide +kernel), List.mem_of_getElem? (i := 1044) (by decide +kernel), by decide +kernel, by decide +kernel, by decide⟩
theorem fv_X10_line : MsYV mX10_line := ⟨List.mem_of_getElem? (i := 1139) (by decide +kernel), List.mem_of_getElem? (i := 1140) (by decide +kernel), List.mem_of_getElem? (i := 139) (by decide +kernel), List.mem_of_getElem? (i := 1141) (by decide +kernel), by decide +kernel, by decide +kernel, by decide⟩
theorem fv_X10_load : MsYV mX10_load := ⟨List.mem_of_getElem? (i := 680) (by decide +kernel), List.mem_of_getElem? (i := 681) (by decide +kernel), List.mem_of_getElem? (i := 139) (by decide +kernel), List.mem_of_getElem? (i := 682) (by decide +kernel), by decide +kernel, by decide +kernel, by decide⟩
theorem fv_X10_match : MsYV mX10_match := ⟨List.mem_of_getElem? (i := 1346) (by decide +kernel), List.mem_of_getElem? (i := 1347) (by decide +kernel), List.mem_of_getElem? (i := 139) (by decide +kernel), List.mem_of_getElem? (i := 1348) (by decide +kernel), by decide +kernel, by decide +kernel, by decide⟩
theorem fv_X10_matches : MsYV mX10_matches := ⟨List.mem_of_getElem? (i := 1339) (by decide +kernel), List.mem_of_getElem? (i := 1340) (by decide +kernel), List.mem_of_getElem? (i := 139) (by decide +kernel), List.mem_of_getElem? (i := 1341) (by decide +kernel), by decide +kernel, by decide +kernel, by decide⟩
theorem fv_X10_meanMarks : MsYV mX10_meanMarks := ⟨List.mem_of_getElem? (i := 1374) (by decide +kernel), List.mem_of_getElem? (i := 1375) (by decide +kernel), List.mem_of_getElem? (i := 139) (by decide +kernel), List.mem_of_getElem? (i := 1376) (by decide +kernel), by decide +kernel, by decide +kernel, by decide⟩
theorem fv_X10_pairOf : MsYV mX10_pairOf := ⟨List.mem_of_getElem? (i := 1066) (by decide +kernel), List.mem_of_getElem? (i := 1067) (by decide +kernel), List.mem_of_getElem? (i := 139) (by decide +kernel), List.mem_of_getElem? (i := 1068) (by decide +kernel), by decide +kernel, by decide +kernel, by decide⟩
theorem fv_X10_query : MsYV mX10_query := ⟨List.mem_of_getElem? (i := 1512) (by decide +kernel), List.mem_of_getElem? (i := 1513) (by decide +kernel), List.mem_of_getElem? (i := 139) (by decide +kernel), List.mem_of_getElem? (i := 1514) (by decide +kernel), by decide +kernel, by decide +kernel, by decide⟩
theorem fv_X10_recomposed : MsYV mX10_recomposed := ⟨List.mem_of_getElem? (i := 1085) (by decide +kernel), List.mem_of_getElem? (i := 1086) (by decide +kernel), List.mem_of_getElem? (i := 139) (by decide +kernel), List.mem_of_getElem? (i := 1087) (by decide +kernel), by decide +kernel, by decide +kernel, by decide⟩
theorem fv_X10_saved : MsYV mX10_saved := ⟨List.mem_of_getElem? (i := 1354) (by decide +kernel), List.mem_of_getElem? (i := 1355) (by decide +kernel), List.mem_of_getElem? (i := 139) (by decide +kernel), List.mem_of_getElem? (i := 1356) (by decide +kernel), by decide +kernel, by decide +kernel, by decide⟩
theorem fv_X10_setClass : MsYV mX10_setClass := ⟨List.mem_of_getElem? (i := 1487) (by decide +kernel), List.mem_of_getElem? (i := 1488) (by decide +kernel), List.mem_of_getElem? (i := 139) (by decide +kernel), List.mem_of_getElem? (i := 1489) (by decide +kernel), by decide +kernel, by decide +kernel, by decide⟩
theorem fv_X10_setSpare : MsYV mX10_setSpare := ⟨List.mem_of_getElem? (i := 1494) (by decide +kernel), List.mem_of_getElem? (i := 1495) (by decide +kernel), List.mem_of_getElem? (i := 139) (by decide +kernel), List.mem_of_getElem? (i := 1496) (by decide +kernel), by decide +kernel, by decide +kernel, by decide⟩
theorem fv_X10_shortness : MsYV mX10_shortness := ⟨List.mem_of_getElem? (i := 1381) (by decide +kernel), List.mem_of_getElem? (i := 1382) (by decide +kernel), List.mem_of_getElem? (i := 139) (by decide +kernel), List.mem_of_getElem? (i := 1383) (by decide +kernel), by decide +kernel, by decide +kernel, by decide⟩
theorem fv_X10_sign : MsYV mX10_sign := ⟨List.mem_of_getElem? (i := 1018) (by decide +kernel), List.mem_of_getElem? (i := 1019) (by decide +kernel), List.mem_of_getElem? (i := 139) (by decide +kernel), List.mem_of_getElem? (i := 1020) (by decide +kernel), by decide +kernel, by decide +kernel, by decide⟩
theorem fv_X10_size : MsYV mX10_size := ⟨List.mem_of_getElem? (i := 984) (by decide +kernel), List.mem_of_getElem? (i := 985) (by decide +kernel), List.mem_of_getElem? (i := 139) (by decide +kernel), List.mem_of_getElem? (i := 986) (by decide +kernel), by decide +kernel, by decide +kernel, by decide⟩
theorem fv_X10_spellings : MsYV mX10_spellings := ⟨List.mem_of_getElem? (i := 1287) (by decide +kernel), List.mem_of_getElem? (i := 1288) (by decide +kernel), List.mem_of_getElem? (i := 139) (by decide +kernel), List.mem_of_getElem? (i := 1289) (by decide +kernel), by decide +kernel, by decide +kernel, by decide⟩
theorem fv_X10_stack : MsYV mX10_stack := ⟨List.mem_of_getElem? (i := 1428) (by decide +kernel), List.mem_of_getElem? (i := 1429) (by decide +kernel), List.mem_of_getElem? (i := 139) (by decide +kernel), List.mem_of_getElem? (i := 1430) (by decide +kernel), by decide +kernel, by decide +kernel, by decide⟩
theorem fv_X10_strip : MsYV mX10_strip := ⟨List.mem_of_getElem? (i := 1442) (by decide +kernel), List.mem_of_getElem? (i := 1443) (by decide +kernel), List.mem_of_getElem? (i := 139) (by decide +kernel), List.mem_of_getElem? (i := 1444) (by decide +kernel), by decide +kernel, by decide +kernel, by decide⟩
theorem fv_X10_type : MsYV mX10_type := ⟨List.mem_of_getElem? (i := 1401) (by decide +kernel), List.mem_of_getElem? (i := 1402) (by decide +kernel), List.mem_of_getElem? (i := 139) (by decide +kernel), List.mem_of_getElem? (i := 1403) (by decide +kernel), by decide +kernel, by decide +kernel, by decide⟩
theorem fv_X10_unlike : MsYV mX10_unlike := ⟨List.mem_of_getElem? (i := 1242) (by decide +kernel), List.mem_of_getElem? (i := 1243) (by decide +kernel), List.mem_of_getElem? (i := 139) (by decide +kernel), List.mem_of_getElem? (i := 1244) (by decide +kernel), by decide +kernel, by decide +kernel, by decide⟩
theorem fv_X10_used : MsYV mX10_used := ⟨List.mem_of_getElem? (i := 1074) (by decide +kernel), List.mem_of_getElem? (i := 1075) (by decide +kernel), List.mem_of_getElem? (i := 139) (by decide +kernel), List.mem_of_getElem? (i := 1076) (by decide +kernel), by decide +kernel, by decide +kernel, by decide⟩
theorem dL_load_0 : decode cL_load 0 = .ok (.aload_n 2, 1) := by decide +kernel
theorem dL_load_1 : decode cL_load 1 = .ok (.iconst 0, 1) := by decide +kernel
theorem dL_load_2 : decode cL_load 2 = .ok (.aload_n 0, 1) := by decide +kernel
theorem dL_load_3 : decode cL_load 3 = .ok (.iload_n 1, 1) := by decide +kernel
theorem dL_load_4 : decode cL_load 4 = .ok (.invokevirtual 7, 3) := by decide +kernel
theorem dL_load_7 : decode cL_load 7 = .ok (.i2l, 1) := by decide +kernel
theorem dL_load_8 : decode cL_load 8 = .ok (.lastore, 1) := by decide +kernel
theorem dL_load_9 : decode cL_load 9 = .ok (.goto 6, 3) := by decide +kernel
theorem dL_load_12 : decode cL_load 12 = .ok (.astore_n 3, 1) := by decide +kernel
theorem dL_load_13 : decode cL_load 13 = .ok (.iconst 1, 1) := by decide +kernel
theorem dL_load_14 : decode cL_load 14 = .ok (.ireturn, 1) := by decide +kernel
theorem dL_load_15 : decode cL_load 15 = .ok (.iconst 0, 1) := by decide +kernel
theorem dL_load_16 : decode cL_load 16 = .ok (.ireturn, 1) := by decide +kernel
abbrev mL_load : MM := (RL, cL_load, 4, (some .int), yL_load, tableOf [(0, 9, 12, 13)])
theorem fs_L_load : MsYSW mL_load [(0, 9, 12, 13)] := ⟨List.mem_of_getElem? (i := 676) (by decide +kernel), List.mem_of_getElem? (i := 138) (by decide +kernel), List.mem_of_getElem? (i := 677) (by decide +kernel), by decide +kernel, by decide +kernel, by decide⟩
theorem hc_L_load {G : MG} : ∀ e v, hn_i e = some v → MsCatch mL_load G 4 e v := hn_ic ⟨[], ⟨0, 9, 12, 13⟩, [], 13, 1, rfl, (fun z hz => by cases hz), rfl, by decide, List.mem_of_getElem? (i := 678) (by decide +kernel), List.mem_of_getElem? (i := 689) (by decide +kernel), Or.inl ⟨3, dL_load_12, by decide, rfl⟩, dL_load_13, by decide +kernel, dL_load_14, rfl⟩
def f_L_load (σ : MsSt) (l1 : Int32) : Option (Int32 × MsSt) :=
  ms_cx2 (f_X10_load σ 0 l1) (fun v1 s2 =>
    (ms_asj s2 517 0 v1.toInt64).bind fun s3 =>
    some (0, s3))
    hn_i
set_option maxRecDepth 100000 in
theorem sp_L_load (G : MG) (hG : (g_l G).stackTraces = false) (d : Nat) (hd : 11 ≤ d) (σ : MsSt) (l1 : Int32) : MsSpecW G mL_load [(0, 9, 12, 13)] d 1 6 [.ref 0, .int l1, .ref 517] σ ms_wi (f_L_load σ l1) := by
  refine ms_startW (by decide +kernel) rfl rfl (Nat.le_of_ble_eq_true rfl) ?_
  show TrO G mL_load d 1 6 0 0 ms_wi 0 [(0, .ref 0), (1, .int l1), (2, .ref 517)] [] σ (ms_cx2 (f_X10_load σ 0 l1) (fun v1 s2 => (ms_asj s2 517 0 v1.toInt64).bind fun s3 => some (0, s3)) hn_i)
  refine tr_aload_n (i := 2) dL_load_0 rfl ?_
  refine tr_iconst (v := 0) dL_load_1 (by decide +kernel) ?_
  refine tr_aload_n (i := 0) dL_load_2 rfl ?_
  refine tr_iload_n (i := 1) dL_load_3 rfl ?_
  refine tr_cx2 (val := Value.int) (fun _ _ => rfl) (fun _ _ => rfl) (ms_cV (rest := [.int 0, .ref 517]) (al := [.int l1]) 10 (sp_X10_load G hG (d - 1) (by omega) σ 0 l1 kd_0) kd_0 (by decide +kernel) kl_L_7 fv_X10_load dL_load_4 (show _ = some 1 by decide +kernel) (by omega) (Nat.le_of_ble_eq_true rfl) (by decide) (by decide)) (by decide) (by decide) hc_L_load (fun v1 s2 => ?_)
  refine tr_i2l dL_load_7 ?_
  refine tr_asj kd_517 dL_load_8 (fun s3 => ?_)
  refine tr_goto (tgt := 15) dL_load_9 (by decide) ?_
  refine tr_iconst (v := 0) dL_load_15 (by decide +kernel) ?_
  exact tr_iret rfl rfl (by decide) (by decide) dL_load_16
theorem dL_size_0 : decode cL_size 0 = .ok (.aload_n 2, 1) := by decide +kernel
theorem dL_size_1 : decode cL_size 1 = .ok (.iconst 0, 1) := by decide +kernel
theorem dL_size_2 : decode cL_size 2 = .ok (.aload_n 0, 1) := by decide +kernel
theorem dL_size_3 : decode cL_size 3 = .ok (.iload_n 1, 1) := by decide +kernel
theorem dL_size_4 : decode cL_size 4 = .ok (.invokevirtual 15, 3) := by decide +kernel
theorem dL_size_7 : decode cL_size 7 = .ok (.i2l, 1) := by decide +kernel
theorem dL_size_8 : decode cL_size 8 = .ok (.lastore, 1) := by decide +kernel
theorem dL_size_9 : decode cL_size 9 = .ok (.goto 6, 3) := by decide +kernel
theorem dL_size_12 : decode cL_size 12 = .ok (.astore_n 3, 1) := by decide +kernel
theorem dL_size_13 : decode cL_size 13 = .ok (.iconst 1, 1) := by decide +kernel
theorem dL_size_14 : decode cL_size 14 = .ok (.ireturn, 1) := by decide +kernel
theorem dL_size_15 : decode cL_size 15 = .ok (.iconst 0, 1) := by decide +kernel
theorem dL_size_16 : decode cL_size 16 = .ok (.ireturn, 1) := by decide +kernel
abbrev mL_size : MM := (RL, cL_size, 4, (some .int), yL_size, tableOf [(0, 9, 12, 18)])
theorem fs_L_size : MsYSW mL_size [(0, 9, 12, 18)] := ⟨List.mem_of_getElem? (i := 980) (by decide +kernel), List.mem_of_getElem? (i := 138) (by decide +kernel), List.mem_of_getElem? (i := 981) (by decide +kernel), by decide +kernel, by decide +kernel, by decide⟩
theorem hc_L_size {G : MG} : ∀ e v, hn_n e = some v → MsCatch mL_size G 4 e v := hn_nc ⟨[], ⟨0, 9, 12, 18⟩, [], 13, 1, rfl, (fun z hz => by cases hz), rfl, by decide, List.mem_of_getElem? (i := 982) (by decide +kernel), List.mem_of_getElem? (i := 992) (by decide +kernel), Or.inl ⟨3, dL_size_12, by decide, rfl⟩, dL_size_13, by decide +kernel, dL_size_14, rfl⟩
def f_L_size (σ : MsSt) (l1 : Int32) : Option (Int32 × MsSt) :=
  ms_ct (f_X10_size σ 0 l1) σ (fun v1 =>
    (ms_asj σ 517 0 v1.toInt64).bind fun s2 =>
    some (0, s2))
    hn_n
set_option maxRecDepth 100000 in
theorem sp_L_size (G : MG) (hG : (g_l G).stackTraces = false) (d : Nat) (hd : 8 ≤ d) (σ : MsSt) (l1 : Int32) : MsSpecW G mL_size [(0, 9, 12, 18)] d 1 6 [.ref 0, .int l1, .ref 517] σ ms_wi (f_L_size σ l1) := by
  refine ms_startW (by decide +kernel) rfl rfl (Nat.le_of_ble_eq_true rfl) ?_
  show TrO G mL_size d 1 6 0 0 ms_wi 0 [(0, .ref 0), (1, .int l1), (2, .ref 517)] [] σ (ms_ct (f_X10_size σ 0 l1) σ (fun v1 => (ms_asj σ 517 0 v1.toInt64).bind fun s2 => some (0, s2)) hn_n)
  refine tr_aload_n (i := 2) dL_size_0 rfl ?_
  refine tr_iconst (v := 0) dL_size_1 (by decide +kernel) ?_
  refine tr_aload_n (i := 0) dL_size_2 rfl ?_
  refine tr_iload_n (i := 1) dL_size_3 rfl ?_
  refine tr_ct (val := Value.int) (fun _ => rfl) (fun _ => rfl) (ms_cV (rest := [.int 0, .ref 517]) (al := [.int l1]) 10 (sp_X10_size G hG (d - 1) (by omega) σ 0 l1 kd_0) kd_0 (by decide +kernel) kl_L_15 fv_X10_size dL_size_4 (show _ = some 1 by decide +kernel) (by omega) (Nat.le_of_ble_eq_true rfl) (by decide) (by decide)) (by decide) (by decide) hc_L_size (fun v1 => ?_)
  refine tr_i2l dL_size_7 ?_
  refine tr_asj kd_517 dL_size_8 (fun s2 => ?_)
  refine tr_goto (tgt := 15) dL_size_9 (by decide) ?_
  refine tr_iconst (v := 0) dL_size_15 (by decide +kernel) ?_
  exact tr_iret rfl rfl (by decide) (by decide) dL_size_16
theorem dL_sign_0 : decode cL_sign 0 = .ok (.aload_n 3, 1) := by decide +kernel
theorem dL_sign_1 : decode cL_sign 1 = .ok (.iconst 0, 1) := by decide +kernel
theorem dL_sign_2 : decode cL_sign 2 = .ok (.aload_n 0, 1) := by decide +kernel
theorem dL_sign_3 : decode cL_sign 3 = .ok (.iload_n 1, 1) := by decide +kernel
theorem dL_sign_4 : decode cL_sign 4 = .ok (.iload_n 2, 1) := by decide +kernel
theorem dL_sign_5 : decode cL_sign 5 = .ok (.invokevirtual 20, 3) := by decide +kernel
theorem dL_sign_8 : decode cL_sign 8 = .ok (.i2l, 1) := by decide +kernel
theorem dL_sign_9 : decode cL_sign 9 = .ok (.lastore, 1) := by decide +kernel
theorem dL_sign_10 : decode cL_sign 10 = .ok (.goto 7, 3) := by decide +kernel
theorem dL_sign_13 : decode cL_sign 13 = .ok (.astore 4, 2) := by decide +kernel
theorem dL_sign_15 : decode cL_sign 15 = .ok (.iconst 1, 1) := by decide +kernel
theorem dL_sign_16 : decode cL_sign 16 = .ok (.ireturn, 1) := by decide +kernel
theorem dL_sign_17 : decode cL_sign 17 = .ok (.iconst 0, 1) := by decide +kernel
theorem dL_sign_18 : decode cL_sign 18 = .ok (.ireturn, 1) := by decide +kernel
abbrev mL_sign : MM := (RL, cL_sign, 5, (some .int), yL_sign, tableOf [(0, 10, 13, 18)])
theorem fs_L_sign : MsYSW mL_sign [(0, 10, 13, 18)] := ⟨List.mem_of_getElem? (i := 1015) (by decide +kernel), List.mem_of_getElem? (i := 138) (by decide +kernel), List.mem_of_getElem? (i := 1016) (by decide +kernel), by decide +kernel, by decide +kernel, by decide⟩
theorem hc_L_sign {G : MG} : ∀ e v, hn_n e = some v → MsCatch mL_sign G 5 e v := hn_nc ⟨[], ⟨0, 10, 13, 18⟩, [], 15, 1, rfl, (fun z hz => by cases hz), rfl, by decide, List.mem_of_getElem? (i := 982) (by decide +kernel), List.mem_of_getElem? (i := 992) (by decide +kernel), Or.inr ⟨4, dL_sign_13, by decide, rfl⟩, dL_sign_15, by decide +kernel, dL_sign_16, rfl⟩
def f_L_sign (σ : MsSt) (l1 : Int32) (l2 : Int32) : Option (Int32 × MsSt) :=
  ms_ct (f_X10_sign σ 0 l1 l2) σ (fun v1 =>
    (ms_asj σ 517 0 v1.toInt64).bind fun s2 =>
    some (0, s2))
    hn_n
set_option maxRecDepth 100000 in
theorem sp_L_sign (G : MG) (hG : (g_l G).stackTraces = false) (d : Nat) (hd : 9 ≤ d) (σ : MsSt) (l1 : Int32) (l2 : Int32) : MsSpecW G mL_sign [(0, 10, 13, 18)] d 2 12 [.ref 0, .int l1, .int l2, .ref 517] σ ms_wi (f_L_sign σ l1 l2) := by
  refine ms_startW (by decide +kernel) rfl rfl (Nat.le_of_ble_eq_true rfl) ?_
  show TrO G mL_sign d 2 12 0 0 ms_wi 0 [(0, .ref 0), (1, .int l1), (2, .int l2), (3, .ref 517)] [] σ (ms_ct (f_X10_sign σ 0 l1 l2) σ (fun v1 => (ms_asj σ 517 0 v1.toInt64).bind fun s2 => some (0, s2)) hn_n)
  refine tr_aload_n (i := 3) dL_sign_0 rfl ?_
  refine tr_iconst (v := 0) dL_sign_1 (by decide +kernel) ?_
  refine tr_aload_n (i := 0) dL_sign_2 rfl ?_
  refine tr_iload_n (i := 1) dL_sign_3 rfl ?_
  refine tr_iload_n (i := 2) dL_sign_4 rfl ?_
  refine tr_ct (val := Value.int) (fun _ => rfl) (fun _ => rfl) (ms_cV (rest := [.int 0, .ref 517]) (al := [.int l1, .int l2]) 10 (sp_X10_sign G hG (d - 1) (by omega) σ 0 l1 l2 kd_0) kd_0 (by decide +kernel) kl_L_20 fv_X10_sign dL_sign_5 (show _ = some 2 by decide +kernel) (by omega) (Nat.le_of_ble_eq_true rfl) (by decide) (by decide)) (by decide) (by decide) hc_L_sign (fun v1 => ?_)
  refine tr_i2l dL_sign_8 ?_
  refine tr_asj kd_517 dL_sign_9 (fun s2 => ?_)
  refine tr_goto (tgt := 17) dL_sign_10 (by decide) ?_
  refine tr_iconst (v := 0) dL_sign_17 (by decide +kernel) ?_
  exact tr_iret rfl rfl (by decide) (by decide) dL_sign_18
theorem dL_letter_0 : decode cL_letter 0 = .ok (.aload_n 3, 1) := by decide +kernel
theorem dL_letter_1 : decode cL_letter 1 = .ok (.iconst 0, 1) := by decide +kernel
theorem dL_letter_2 : decode cL_letter 2 = .ok (.aload_n 0, 1) := by decide +kernel
theorem dL_letter_3 : decode cL_letter 3 = .ok (.iload_n 1, 1) := by decide +kernel
theorem dL_letter_4 : decode cL_letter 4 = .ok (.iload_n 2, 1) := by decide +kernel
theorem dL_letter_5 : decode cL_letter 5 = .ok (.invokevirtual 24, 3) := by decide +kernel
theorem dL_letter_8 : decode cL_letter 8 = .ok (.i2l, 1) := by decide +kernel
theorem dL_letter_9 : decode cL_letter 9 = .ok (.lastore, 1) := by decide +kernel
theorem dL_letter_10 : decode cL_letter 10 = .ok (.goto 7, 3) := by decide +kernel
theorem dL_letter_13 : decode cL_letter 13 = .ok (.astore 4, 2) := by decide +kernel
theorem dL_letter_15 : decode cL_letter 15 = .ok (.iconst 1, 1) := by decide +kernel
theorem dL_letter_16 : decode cL_letter 16 = .ok (.ireturn, 1) := by decide +kernel
theorem dL_letter_17 : decode cL_letter 17 = .ok (.iconst 0, 1) := by decide +kernel
theorem dL_letter_18 : decode cL_letter 18 = .ok (.ireturn, 1) := by decide +kernel
abbrev mL_letter : MM := (RL, cL_letter, 5, (some .int), yL_letter, tableOf [(0, 10, 13, 18)])
theorem fs_L_letter : MsYSW mL_letter [(0, 10, 13, 18)] := ⟨List.mem_of_getElem? (i := 1039) (by decide +kernel), List.mem_of_getElem? (i := 138) (by decide +kernel), List.mem_of_getElem? (i := 1040) (by decide +kernel), by decide +kernel, by decide +kernel, by decide⟩
theorem hc_L_letter {G : MG} : ∀ e v, hn_n e = some v → MsCatch mL_letter G 5 e v := hn_nc ⟨[], ⟨0, 10, 13, 18⟩, [], 15, 1, rfl, (fun z hz => by cases hz), rfl, by decide, List.mem_of_getElem? (i := 982) (by decide +kernel), List.mem_of_getElem? (i := 992) (by decide +kernel), Or.inr ⟨4, dL_letter_13, by decide, rfl⟩, dL_letter_15, by decide +kernel, dL_letter_16, rfl⟩
def f_L_letter (σ : MsSt) (l1 : Int32) (l2 : Int32) : Option (Int32 × MsSt) :=
  ms_ct (f_X10_letter σ 0 l1 l2) σ (fun v1 =>
    (ms_asj σ 517 0 v1.toInt64).bind fun s2 =>
    some (0, s2))
    hn_n
set_option maxRecDepth 100000 in
theorem sp_L_letter (G : MG) (hG : (g_l G).stackTraces = false) (d : Nat) (hd : 9 ≤ d) (σ : MsSt) (l1 : Int32) (l2 : Int32) : MsSpecW G mL_letter [(0, 10, 13, 18)] d 2 12 [.ref 0, .int l1, .int l2, .ref 517] σ ms_wi (f_L_letter σ l1 l2) := by
  refine ms_startW (by decide +kernel) rfl rfl (Nat.le_of_ble_eq_true rfl) ?_
  show TrO G mL_letter d 2 12 0 0 ms_wi 0 [(0, .ref 0), (1, .int l1), (2, .int l2), (3, .ref 517)] [] σ (ms_ct (f_X10_letter σ 0 l1 l2) σ (fun v1 => (ms_asj σ 517 0 v1.toInt64).bind fun s2 => some (0, s2)) hn_n)
  refine tr_aload_n (i := 3) dL_letter_0 rfl ?_
  refine tr_iconst (v := 0) dL_letter_1 (by decide +kernel) ?_
  refine tr_aload_n (i := 0) dL_letter_2 rfl ?_
  refine tr_iload_n (i := 1) dL_letter_3 rfl ?_
  refine tr_iload_n (i := 2) dL_letter_4 rfl ?_
  refine tr_ct (val := Value.int) (fun _ => rfl) (fun _ => rfl) (ms_cV (rest := [.int 0, .ref 517]) (al := [.int l1, .int l2]) 10 (sp_X10_letter G hG (d - 1) (by omega) σ 0 l1 l2 kd_0) kd_0 (by decide +kernel) kl_L_24 fv_X10_letter dL_letter_5 (show _ = some 2 by decide +kernel) (by omega) (Nat.le_of_ble_eq_true rfl) (by decide) (by decide)) (by decide) (by decide) hc_L_letter (fun v1 => ?_)
  refine tr_i2l dL_letter_8 ?_
  refine tr_asj kd_517 dL_letter_9 (fun s2 => ?_)
  refine tr_goto (tgt := 17) dL_letter_10 (by decide) ?_
  refine tr_iconst (v := 0) dL_letter_17 (by decide +kernel) ?_
  exact tr_iret rfl rfl (by decide) (by decide) dL_letter_18
theorem dL_expanded_0 : decode cL_expanded 0 = .ok (.aload_n 3, 1) := by decide +kernel
theorem dL_expanded_1 : decode cL_expanded 1 = .ok (.iconst 0, 1) := by decide +kernel
theorem dL_expanded_2 : decode cL_expanded 2 = .ok (.aload_n 0, 1) := by decide +kernel
theorem dL_expanded_3 : decode cL_expanded 3 = .ok (.iload_n 1, 1) := by decide +kernel
theorem dL_expanded_4 : decode cL_expanded 4 = .ok (.iload_n 2, 1) := by decide +kernel
theorem dL_expanded_5 : decode cL_expanded 5 = .ok (.invokevirtual 27, 3) := by decide +kernel
theorem dL_expanded_8 : decode cL_expanded 8 = .ok (.i2l, 1) := by decide +kernel
theorem dL_expanded_9 : decode cL_expanded 9 = .ok (.lastore, 1) := by decide +kernel
theorem dL_expanded_10 : decode cL_expanded 10 = .ok (.goto 7, 3) := by decide +kernel
theorem dL_expanded_13 : decode cL_expanded 13 = .ok (.astore 4, 2) := by decide +kernel
theorem dL_expanded_15 : decode cL_expanded 15 = .ok (.iconst 1, 1) := by decide +kernel
theorem dL_expanded_16 : decode cL_expanded 16 = .ok (.ireturn, 1) := by decide +kernel
theorem dL_expanded_17 : decode cL_expanded 17 = .ok (.iconst 0, 1) := by decide +kernel
theorem dL_expanded_18 : decode cL_expanded 18 = .ok (.ireturn, 1) := by decide +kernel
abbrev mL_expanded : MM := (RL, cL_expanded, 5, (some .int), yL_expanded, tableOf [(0, 10, 13, 18)])
theorem fs_L_expanded : MsYSW mL_expanded [(0, 10, 13, 18)] := ⟨List.mem_of_getElem? (i := 1051) (by decide +kernel), List.mem_of_getElem? (i := 138) (by decide +kernel), List.mem_of_getElem? (i := 1052) (by decide +kernel), by decide +kernel, by decide +kernel, by decide⟩
theorem hc_L_expanded {G : MG} : ∀ e v, hn_n e = some v → MsCatch mL_expanded G 5 e v := hn_nc ⟨[], ⟨0, 10, 13, 18⟩, [], 15, 1, rfl, (fun z hz => by cases hz), rfl, by decide, List.mem_of_getElem? (i := 982) (by decide +kernel), List.mem_of_getElem? (i := 992) (by decide +kernel), Or.inr ⟨4, dL_expanded_13, by decide, rfl⟩, dL_expanded_15, by decide +kernel, dL_expanded_16, rfl⟩
def f_L_expanded (σ : MsSt) (l1 : Int32) (l2 : Int32) : Option (Int32 × MsSt) :=
  ms_ct (f_X10_expanded σ 0 l1 l2) σ (fun v1 =>
    (ms_asj σ 517 0 v1.toInt64).bind fun s2 =>
    some (0, s2))
    hn_n
set_option maxRecDepth 100000 in
theorem sp_L_expanded (G : MG) (hG : (g_l G).stackTraces = false) (d : Nat) (hd : 9 ≤ d) (σ : MsSt) (l1 : Int32) (l2 : Int32) : MsSpecW G mL_expanded [(0, 10, 13, 18)] d 2 12 [.ref 0, .int l1, .int l2, .ref 517] σ ms_wi (f_L_expanded σ l1 l2) := by
  refine ms_startW (by decide +kernel) rfl rfl (Nat.le_of_ble_eq_true rfl) ?_
  show TrO G mL_expanded d 2 12 0 0 ms_wi 0 [(0, .ref 0), (1, .int l1), (2, .int l2), (3, .ref 517)] [] σ (ms_ct (f_X10_expanded σ 0 l1 l2) σ (fun v1 => (ms_asj σ 517 0 v1.toInt64).bind fun s2 => some (0, s2)) hn_n)
  refine tr_aload_n (i := 3) dL_expanded_0 rfl ?_
  refine tr_iconst (v := 0) dL_expanded_1 (by decide +kernel) ?_
  refine tr_aload_n (i := 0) dL_expanded_2 rfl ?_
  refine tr_iload_n (i := 1) dL_expanded_3 rfl ?_
  refine tr_iload_n (i := 2) dL_expanded_4 rfl ?_
  refine tr_ct (val := Value.int) (fun _ => rfl) (fun _ => rfl) (ms_cV (rest := [.int 0, .ref 517]) (al := [.int l1, .int l2]) 10 (sp_X10_expanded G hG (d - 1) (by omega) σ 0 l1 l2 kd_0) kd_0 (by decide +kernel) kl_L_27 fv_X10_expanded dL_expanded_5 (show _ = some 2 by decide +kernel) (by omega) (Nat.le_of_ble_eq_true rfl) (by decide) (by decide)) (by decide) (by decide) hc_L_expanded (fun v1 => ?_)
  refine tr_i2l dL_expanded_8 ?_
  refine tr_asj kd_517 dL_expanded_9 (fun s2 => ?_)
  refine tr_goto (tgt := 17) dL_expanded_10 (by decide) ?_
  refine tr_iconst (v := 0) dL_expanded_17 (by decide +kernel) ?_
  exact tr_iret rfl rfl (by decide) (by decide) dL_expanded_18
theorem dL_pairOf_0 : decode cL_pairOf 0 = .ok (.aload_n 3, 1) := by decide +kernel
theorem dL_pairOf_1 : decode cL_pairOf 1 = .ok (.iconst 0, 1) := by decide +kernel
theorem dL_pairOf_2 : decode cL_pairOf 2 = .ok (.aload_n 0, 1) := by decide +kernel
theorem dL_pairOf_3 : decode cL_pairOf 3 = .ok (.iload_n 1, 1) := by decide +kernel
theorem dL_pairOf_4 : decode cL_pairOf 4 = .ok (.iload_n 2, 1) := by decide +kernel
theorem dL_pairOf_5 : decode cL_pairOf 5 = .ok (.invokevirtual 30, 3) := by decide +kernel
theorem dL_pairOf_8 : decode cL_pairOf 8 = .ok (.i2l, 1) := by decide +kernel
theorem dL_pairOf_9 : decode cL_pairOf 9 = .ok (.lastore, 1) := by decide +kernel
theorem dL_pairOf_10 : decode cL_pairOf 10 = .ok (.goto 7, 3) := by decide +kernel
theorem dL_pairOf_13 : decode cL_pairOf 13 = .ok (.astore 4, 2) := by decide +kernel
theorem dL_pairOf_15 : decode cL_pairOf 15 = .ok (.iconst 1, 1) := by decide +kernel
theorem dL_pairOf_16 : decode cL_pairOf 16 = .ok (.ireturn, 1) := by decide +kernel
theorem dL_pairOf_17 : decode cL_pairOf 17 = .ok (.iconst 0, 1) := by decide +kernel
theorem dL_pairOf_18 : decode cL_pairOf 18 = .ok (.ireturn, 1) := by decide +kernel
abbrev mL_pairOf : MM := (RL, cL_pairOf, 5, (some .int), yL_pairOf, tableOf [(0, 10, 13, 18)])
theorem fs_L_pairOf : MsYSW mL_pairOf [(0, 10, 13, 18)] := ⟨List.mem_of_getElem? (i := 1063) (by decide +kernel), List.mem_of_getElem? (i := 138) (by decide +kernel), List.mem_of_getElem? (i := 1064) (by decide +kernel), by decide +kernel, by decide +kernel, by decide⟩
theorem hc_L_pairOf {G : MG} : ∀ e v, hn_n e = some v → MsCatch mL_pairOf G 5 e v := hn_nc ⟨[], ⟨0, 10, 13, 18⟩, [], 15, 1, rfl, (fun z hz => by cases hz), rfl, by decide, List.mem_of_getElem? (i := 982) (by decide +kernel), List.mem_of_getElem? (i := 992) (by decide +kernel), Or.inr ⟨4, dL_pairOf_13, by decide, rfl⟩, dL_pairOf_15, by decide +kernel, dL_pairOf_16, rfl⟩
def f_L_pairOf (σ : MsSt) (l1 : Int32) (l2 : Int32) : Option (Int32 × MsSt) :=
  ms_ct (f_X10_pairOf σ 0 l1 l2) σ (fun v1 =>
    (ms_asj σ 517 0 v1.toInt64).bind fun s2 =>
    some (0, s2))
    hn_n
set_option maxRecDepth 100000 in
theorem sp_L_pairOf (G : MG) (hG : (g_l G).stackTraces = false) (d : Nat) (hd : 9 ≤ d) (σ : MsSt) (l1 : Int32) (l2 : Int32) : MsSpecW G mL_pairOf [(0, 10, 13, 18)] d 2 12 [.ref 0, .int l1, .int l2, .ref 517] σ ms_wi (f_L_pairOf σ l1 l2) := by
  refine ms_startW (by decide +kernel) rfl rfl (Nat.le_of_ble_eq_true rfl) ?_
  show TrO G mL_pairOf d 2 12 0 0 ms_wi 0 [(0, .ref 0), (1, .int l1), (2, .int l2), (3, .ref 517)] [] σ (ms_ct (f_X10_pairOf σ 0 l1 l2) σ (fun v1 => (ms_asj σ 517 0 v1.toInt64).bind fun s2 => some (0, s2)) hn_n)
  refine tr_aload_n (i := 3) dL_pairOf_0 rfl ?_
  refine tr_iconst (v := 0) dL_pairOf_1 (by decide +kernel) ?_
  refine tr_aload_n (i := 0) dL_pairOf_2 rfl ?_
  refine tr_iload_n (i := 1) dL_pairOf_3 rfl ?_
  refine tr_iload_n (i := 2) dL_pairOf_4 rfl ?_
  refine tr_ct (val := Value.int) (fun _ => rfl) (fun _ => rfl) (ms_cV (rest := [.int 0, .ref 517]) (al := [.int l1, .int l2]) 10 (sp_X10_pairOf G hG (d - 1) (by omega) σ 0 l1 l2 kd_0) kd_0 (by decide +kernel) kl_L_30 fv_X10_pairOf dL_pairOf_5 (show _ = some 2 by decide +kernel) (by omega) (Nat.le_of_ble_eq_true rfl) (by decide) (by decide)) (by decide) (by decide) hc_L_pairOf (fun v1 => ?_)
  refine tr_i2l dL_pairOf_8 ?_
  refine tr_asj kd_517 dL_pairOf_9 (fun s2 => ?_)
  refine tr_goto (tgt := 17) dL_pairOf_10 (by decide) ?_
  refine tr_iconst (v := 0) dL_pairOf_17 (by decide +kernel) ?_
  exact tr_iret rfl rfl (by decide) (by decide) dL_pairOf_18
theorem dL_used_0 : decode cL_used 0 = .ok (.aload_n 2, 1) := by decide +kernel
theorem dL_used_1 : decode cL_used 1 = .ok (.iconst 0, 1) := by decide +kernel
theorem dL_used_2 : decode cL_used 2 = .ok (.aload_n 0, 1) := by decide +kernel
theorem dL_used_3 : decode cL_used 3 = .ok (.iload_n 1, 1) := by decide +kernel
theorem dL_used_4 : decode cL_used 4 = .ok (.invokevirtual 33, 3) := by decide +kernel
theorem dL_used_7 : decode cL_used 7 = .ok (.i2l, 1) := by decide +kernel
theorem dL_used_8 : decode cL_used 8 = .ok (.lastore, 1) := by decide +kernel
theorem dL_used_9 : decode cL_used 9 = .ok (.goto 6, 3) := by decide +kernel
theorem dL_used_12 : decode cL_used 12 = .ok (.astore_n 3, 1) := by decide +kernel
theorem dL_used_13 : decode cL_used 13 = .ok (.iconst 1, 1) := by decide +kernel
theorem dL_used_14 : decode cL_used 14 = .ok (.ireturn, 1) := by decide +kernel
theorem dL_used_15 : decode cL_used 15 = .ok (.iconst 0, 1) := by decide +kernel
theorem dL_used_16 : decode cL_used 16 = .ok (.ireturn, 1) := by decide +kernel
abbrev mL_used : MM := (RL, cL_used, 4, (some .int), yL_used, tableOf [(0, 9, 12, 18)])
theorem fs_L_used : MsYSW mL_used [(0, 9, 12, 18)] := ⟨List.mem_of_getElem? (i := 1071) (by decide +kernel), List.mem_of_getElem? (i := 138) (by decide +kernel), List.mem_of_getElem? (i := 1072) (by decide +kernel), by decide +kernel, by decide +kernel, by decide⟩
theorem hc_L_used {G : MG} : ∀ e v, hn_n e = some v → MsCatch mL_used G 4 e v := hn_nc ⟨[], ⟨0, 9, 12, 18⟩, [], 13, 1, rfl, (fun z hz => by cases hz), rfl, by decide, List.mem_of_getElem? (i := 982) (by decide +kernel), List.mem_of_getElem? (i := 992) (by decide +kernel), Or.inl ⟨3, dL_used_12, by decide, rfl⟩, dL_used_13, by decide +kernel, dL_used_14, rfl⟩
def f_L_used (σ : MsSt) (l1 : Int32) : Option (Int32 × MsSt) :=
  ms_ct (f_X10_used σ 0 l1) σ (fun v1 =>
    (ms_asj σ 517 0 v1.toInt64).bind fun s2 =>
    some (0, s2))
    hn_n
set_option maxRecDepth 100000 in
theorem sp_L_used (G : MG) (hG : (g_l G).stackTraces = false) (d : Nat) (hd : 9 ≤ d) (σ : MsSt) (l1 : Int32) : MsSpecW G mL_used [(0, 9, 12, 18)] d 1 6 [.ref 0, .int l1, .ref 517] σ ms_wi (f_L_used σ l1) := by
  refine ms_startW (by decide +kernel) rfl rfl (Nat.le_of_ble_eq_true rfl) ?_
  show TrO G mL_used d 1 6 0 0 ms_wi 0 [(0, .ref 0), (1, .int l1), (2, .ref 517)] [] σ (ms_ct (f_X10_used σ 0 l1) σ (fun v1 => (ms_asj σ 517 0 v1.toInt64).bind fun s2 => some (0, s2)) hn_n)
  refine tr_aload_n (i := 2) dL_used_0 rfl ?_
  refine tr_iconst (v := 0) dL_used_1 (by decide +kernel) ?_
  refine tr_aload_n (i := 0) dL_used_2 rfl ?_
  refine tr_iload_n (i := 1) dL_used_3 rfl ?_
  refine tr_ct (val := Value.int) (fun _ => rfl) (fun _ => rfl) (ms_cV (rest := [.int 0, .ref 517]) (al := [.int l1]) 10 (sp_X10_used G hG (d - 1) (by omega) σ 0 l1 kd_0) kd_0 (by decide +kernel) kl_L_33 fv_X10_used dL_used_4 (show _ = some 1 by decide +kernel) (by omega) (Nat.le_of_ble_eq_true rfl) (by decide) (by decide)) (by decide) (by decide) hc_L_used (fun v1 => ?_)
  refine tr_i2l dL_used_7 ?_
  refine tr_asj kd_517 dL_used_8 (fun s2 => ?_)
  refine tr_goto (tgt := 15) dL_used_9 (by decide) ?_
  refine tr_iconst (v := 0) dL_used_15 (by decide +kernel) ?_
  exact tr_iret rfl rfl (by decide) (by decide) dL_used_16
theorem dL_recomposed_0 : decode cL_recomposed 0 = .ok (.aload_n 2, 1) := by decide +kernel
theorem dL_recomposed_1 : decode cL_recomposed 1 = .ok (.iconst 0, 1) := by decide +kernel
theorem dL_recomposed_2 : decode cL_recomposed 2 = .ok (.aload_n 0, 1) := by decide +kernel
theorem dL_recomposed_3 : decode cL_recomposed 3 = .ok (.iload_n 1, 1) := by decide +kernel
theorem dL_recomposed_4 : decode cL_recomposed 4 = .ok (.invokevirtual 36, 3) := by decide +kernel
theorem dL_recomposed_7 : decode cL_recomposed 7 = .ok (.i2l, 1) := by decide +kernel
theorem dL_recomposed_8 : decode cL_recomposed 8 = .ok (.lastore, 1) := by decide +kernel
theorem dL_recomposed_9 : decode cL_recomposed 9 = .ok (.goto 6, 3) := by decide +kernel
theorem dL_recomposed_12 : decode cL_recomposed 12 = .ok (.astore_n 3, 1) := by decide +kernel
theorem dL_recomposed_13 : decode cL_recomposed 13 = .ok (.iconst 1, 1) := by decide +kernel
theorem dL_recomposed_14 : decode cL_recomposed 14 = .ok (.ireturn, 1) := by decide +kernel
theorem dL_recomposed_15 : decode cL_recomposed 15 = .ok (.iconst 0, 1) := by decide +kernel
theorem dL_recomposed_16 : decode cL_recomposed 16 = .ok (.ireturn, 1) := by decide +kernel
abbrev mL_recomposed : MM := (RL, cL_recomposed, 4, (some .int), yL_recomposed, tableOf [(0, 9, 12, 18)])
theorem fs_L_recomposed : MsYSW mL_recomposed [(0, 9, 12, 18)] := ⟨List.mem_of_getElem? (i := 1082) (by decide +kernel), List.mem_of_getElem? (i := 138) (by decide +kernel), List.mem_of_getElem? (i := 1083) (by decide +kernel), by decide +kernel, by decide +kernel, by decide⟩
theorem hc_L_recomposed {G : MG} : ∀ e v, hn_n e = some v → MsCatch mL_recomposed G 4 e v := hn_nc ⟨[], ⟨0, 9, 12, 18⟩, [], 13, 1, rfl, (fun z hz => by cases hz), rfl, by decide, List.mem_of_getElem? (i := 982) (by decide +kernel), List.mem_of_getElem? (i := 992) (by decide +kernel), Or.inl ⟨3, dL_recomposed_12, by decide, rfl⟩, dL_recomposed_13, by decide +kernel, dL_recomposed_14, rfl⟩
def f_L_recomposed (σ : MsSt) (l1 : Int32) : Option (Int32 × MsSt) :=
  ms_cx2 (f_X10_recomposed σ 0 l1) (fun v1 s2 =>
    (ms_asj s2 517 0 v1.toInt64).bind fun s3 =>
    some (0, s3))
    hn_n
set_option maxRecDepth 100000 in
theorem sp_L_recomposed (G : MG) (hG : (g_l G).stackTraces = false) (d : Nat) (hd : 9 ≤ d) (σ : MsSt) (l1 : Int32) : MsSpecW G mL_recomposed [(0, 9, 12, 18)] d 1 6 [.ref 0, .int l1, .ref 517] σ ms_wi (f_L_recomposed σ l1) := by
  refine ms_startW (by decide +kernel) rfl rfl (Nat.le_of_ble_eq_true rfl) ?_
  show TrO G mL_recomposed d 1 6 0 0 ms_wi 0 [(0, .ref 0), (1, .int l1), (2, .ref 517)] [] σ (ms_cx2 (f_X10_recomposed σ 0 l1) (fun v1 s2 => (ms_asj s2 517 0 v1.toInt64).bind fun s3 => some (0, s3)) hn_n)
  refine tr_aload_n (i := 2) dL_recomposed_0 rfl ?_
  refine tr_iconst (v := 0) dL_recomposed_1 (by decide +kernel) ?_
  refine tr_aload_n (i := 0) dL_recomposed_2 rfl ?_
  refine tr_iload_n (i := 1) dL_recomposed_3 rfl ?_
  refine tr_cx2 (val := Value.int) (fun _ _ => rfl) (fun _ _ => rfl) (ms_cV (rest := [.int 0, .ref 517]) (al := [.int l1]) 10 (sp_X10_recomposed G hG (d - 1) (by omega) σ 0 l1 kd_0) kd_0 (by decide +kernel) kl_L_36 fv_X10_recomposed dL_recomposed_4 (show _ = some 1 by decide +kernel) (by omega) (Nat.le_of_ble_eq_true rfl) (by decide) (by decide)) (by decide) (by decide) hc_L_recomposed (fun v1 s2 => ?_)
  refine tr_i2l dL_recomposed_7 ?_
  refine tr_asj kd_517 dL_recomposed_8 (fun s3 => ?_)
  refine tr_goto (tgt := 15) dL_recomposed_9 (by decide) ?_
  refine tr_iconst (v := 0) dL_recomposed_15 (by decide +kernel) ?_
  exact tr_iret rfl rfl (by decide) (by decide) dL_recomposed_16
theorem dL_line_0 : decode cL_line 0 = .ok (.aload_n 3, 1) := by decide +kernel
theorem dL_line_1 : decode cL_line 1 = .ok (.iconst 0, 1) := by decide +kernel
theorem dL_line_2 : decode cL_line 2 = .ok (.aload_n 0, 1) := by decide +kernel
theorem dL_line_3 : decode cL_line 3 = .ok (.iload_n 1, 1) := by decide +kernel
theorem dL_line_4 : decode cL_line 4 = .ok (.iload_n 2, 1) := by decide +kernel
theorem dL_line_5 : decode cL_line 5 = .ok (.invokevirtual 39, 3) := by decide +kernel
theorem dL_line_8 : decode cL_line 8 = .ok (.i2l, 1) := by decide +kernel
theorem dL_line_9 : decode cL_line 9 = .ok (.lastore, 1) := by decide +kernel
theorem dL_line_10 : decode cL_line 10 = .ok (.goto 7, 3) := by decide +kernel
theorem dL_line_13 : decode cL_line 13 = .ok (.astore 4, 2) := by decide +kernel
theorem dL_line_15 : decode cL_line 15 = .ok (.iconst 1, 1) := by decide +kernel
theorem dL_line_16 : decode cL_line 16 = .ok (.ireturn, 1) := by decide +kernel
theorem dL_line_17 : decode cL_line 17 = .ok (.iconst 0, 1) := by decide +kernel
theorem dL_line_18 : decode cL_line 18 = .ok (.ireturn, 1) := by decide +kernel
abbrev mL_line : MM := (RL, cL_line, 5, (some .int), yL_line, tableOf [(0, 10, 13, 18)])
theorem fs_L_line : MsYSW mL_line [(0, 10, 13, 18)] := ⟨List.mem_of_getElem? (i := 1136) (by decide +kernel), List.mem_of_getElem? (i := 138) (by decide +kernel), List.mem_of_getElem? (i := 1137) (by decide +kernel), by decide +kernel, by decide +kernel, by decide⟩
theorem hc_L_line {G : MG} : ∀ e v, hn_n e = some v → MsCatch mL_line G 5 e v := hn_nc ⟨[], ⟨0, 10, 13, 18⟩, [], 15, 1, rfl, (fun z hz => by cases hz), rfl, by decide, List.mem_of_getElem? (i := 982) (by decide +kernel), List.mem_of_getElem? (i := 992) (by decide +kernel), Or.inr ⟨4, dL_line_13, by decide, rfl⟩, dL_line_15, by decide +kernel, dL_line_16, rfl⟩
def f_L_line (σ : MsSt) (l1 : Int32) (l2 : Int32) : Option (Int32 × MsSt) :=
  ms_cx2 (f_X10_line σ 0 l1 l2) (fun v1 s2 =>
    (ms_asj s2 517 0 v1.toInt64).bind fun s3 =>
    some (0, s3))
    hn_n
set_option maxRecDepth 100000 in
theorem sp_L_line (G : MG) (hG : (g_l G).stackTraces = false) (d : Nat) (hd : 9 ≤ d) (σ : MsSt) (l1 : Int32) (l2 : Int32) : MsSpecW G mL_line [(0, 10, 13, 18)] d 2 12 [.ref 0, .int l1, .int l2, .ref 517] σ ms_wi (f_L_line σ l1 l2) := by
  refine ms_startW (by decide +kernel) rfl rfl (Nat.le_of_ble_eq_true rfl) ?_
  show TrO G mL_line d 2 12 0 0 ms_wi 0 [(0, .ref 0), (1, .int l1), (2, .int l2), (3, .ref 517)] [] σ (ms_cx2 (f_X10_line σ 0 l1 l2) (fun v1 s2 => (ms_asj s2 517 0 v1.toInt64).bind fun s3 => some (0, s3)) hn_n)
  refine tr_aload_n (i := 3) dL_line_0 rfl ?_
  refine tr_iconst (v := 0) dL_line_1 (by decide +kernel) ?_
  refine tr_aload_n (i := 0) dL_line_2 rfl ?_
  refine tr_iload_n (i := 1) dL_line_3 rfl ?_
  refine tr_iload_n (i := 2) dL_line_4 rfl ?_
  refine tr_cx2 (val := Value.int) (fun _ _ => rfl) (fun _ _ => rfl) (ms_cV (rest := [.int 0, .ref 517]) (al := [.int l1, .int l2]) 10 (sp_X10_line G hG (d - 1) (by omega) σ 0 l1 l2 kd_0) kd_0 (by decide +kernel) kl_L_39 fv_X10_line dL_line_5 (show _ = some 2 by decide +kernel) (by omega) (Nat.le_of_ble_eq_true rfl) (by decide) (by decide)) (by decide) (by decide) hc_L_line (fun v1 s2 => ?_)
  refine tr_i2l dL_line_8 ?_
  refine tr_asj kd_517 dL_line_9 (fun s3 => ?_)
  refine tr_goto (tgt := 17) dL_line_10 (by decide) ?_
  refine tr_iconst (v := 0) dL_line_17 (by decide +kernel) ?_
  exact tr_iret rfl rfl (by decide) (by decide) dL_line_18
theorem dL_at_0 : decode cL_at 0 = .ok (.aload 4, 2) := by decide +kernel
theorem dL_at_2 : decode cL_at 2 = .ok (.iconst 0, 1) := by decide +kernel
theorem dL_at_3 : decode cL_at 3 = .ok (.aload_n 0, 1) := by decide +kernel
theorem dL_at_4 : decode cL_at 4 = .ok (.iload_n 1, 1) := by decide +kernel
theorem dL_at_5 : decode cL_at 5 = .ok (.iload_n 2, 1) := by decide +kernel
theorem dL_at_6 : decode cL_at 6 = .ok (.iload_n 3, 1) := by decide +kernel
theorem dL_at_7 : decode cL_at 7 = .ok (.invokevirtual 42, 3) := by decide +kernel
theorem dL_at_10 : decode cL_at 10 = .ok (.i2l, 1) := by decide +kernel
theorem dL_at_11 : decode cL_at 11 = .ok (.lastore, 1) := by decide +kernel
theorem dL_at_12 : decode cL_at 12 = .ok (.goto 7, 3) := by decide +kernel
theorem dL_at_15 : decode cL_at 15 = .ok (.astore 5, 2) := by decide +kernel
theorem dL_at_17 : decode cL_at 17 = .ok (.iconst 1, 1) := by decide +kernel
theorem dL_at_18 : decode cL_at 18 = .ok (.ireturn, 1) := by decide +kernel
theorem dL_at_19 : decode cL_at 19 = .ok (.iconst 0, 1) := by decide +kernel
theorem dL_at_20 : decode cL_at 20 = .ok (.ireturn, 1) := by decide +kernel
abbrev mL_at : MM := (RL, cL_at, 6, (some .int), yL_at, tableOf [(0, 12, 15, 18)])
theorem fs_L_at : MsYSW mL_at [(0, 12, 15, 18)] := ⟨List.mem_of_getElem? (i := 1228) (by decide +kernel), List.mem_of_getElem? (i := 138) (by decide +kernel), List.mem_of_getElem? (i := 1229) (by decide +kernel), by decide +kernel, by decide +kernel, by decide⟩
theorem hc_L_at {G : MG} : ∀ e v, hn_n e = some v → MsCatch mL_at G 7 e v := hn_nc ⟨[], ⟨0, 12, 15, 18⟩, [], 17, 1, rfl, (fun z hz => by cases hz), rfl, by decide, List.mem_of_getElem? (i := 982) (by decide +kernel), List.mem_of_getElem? (i := 992) (by decide +kernel), Or.inr ⟨5, dL_at_15, by decide, rfl⟩, dL_at_17, by decide +kernel, dL_at_18, rfl⟩
def f_L_at (σ : MsSt) (l1 : Int32) (l2 : Int32) (l3 : Int32) : Option (Int32 × MsSt) :=
  ms_cx2 (f_X10_at σ 0 l1 l2 l3) (fun v1 s2 =>
    (ms_asj s2 517 0 v1.toInt64).bind fun s3 =>
    some (0, s3))
    hn_n
set_option maxRecDepth 100000 in
theorem sp_L_at (G : MG) (hG : (g_l G).stackTraces = false) (d : Nat) (hd : 9 ≤ d) (σ : MsSt) (l1 : Int32) (l2 : Int32) (l3 : Int32) : MsSpecW G mL_at [(0, 12, 15, 18)] d 3 18 [.ref 0, .int l1, .int l2, .int l3, .ref 517] σ ms_wi (f_L_at σ l1 l2 l3) := by
  refine ms_startW (by decide +kernel) rfl rfl (Nat.le_of_ble_eq_true rfl) ?_
  show TrO G mL_at d 3 18 0 0 ms_wi 0 [(0, .ref 0), (1, .int l1), (2, .int l2), (3, .int l3), (4, .ref 517)] [] σ (ms_cx2 (f_X10_at σ 0 l1 l2 l3) (fun v1 s2 => (ms_asj s2 517 0 v1.toInt64).bind fun s3 => some (0, s3)) hn_n)
  refine tr_aload (i := 4) dL_at_0 rfl ?_
  refine tr_iconst (v := 0) dL_at_2 (by decide +kernel) ?_
  refine tr_aload_n (i := 0) dL_at_3 rfl ?_
  refine tr_iload_n (i := 1) dL_at_4 rfl ?_
  refine tr_iload_n (i := 2) dL_at_5 rfl ?_
  refine tr_iload_n (i := 3) dL_at_6 rfl ?_
  refine tr_cx2 (val := Value.int) (fun _ _ => rfl) (fun _ _ => rfl) (ms_cV (rest := [.int 0, .ref 517]) (al := [.int l1, .int l2, .int l3]) 10 (sp_X10_at G hG (d - 1) (by omega) σ 0 l1 l2 l3 kd_0) kd_0 (by decide +kernel) kl_L_42 fv_X10_at dL_at_7 (show _ = some 3 by decide +kernel) (by omega) (Nat.le_of_ble_eq_true rfl) (by decide) (by decide)) (by decide) (by decide) hc_L_at (fun v1 s2 => ?_)
  refine tr_i2l dL_at_10 ?_
  refine tr_asj kd_517 dL_at_11 (fun s3 => ?_)
  refine tr_goto (tgt := 19) dL_at_12 (by decide) ?_
  refine tr_iconst (v := 0) dL_at_19 (by decide +kernel) ?_
  exact tr_iret rfl rfl (by decide) (by decide) dL_at_20
theorem dL_unlike_0 : decode cL_unlike 0 = .ok (.aload_n 3, 1) := by decide +kernel
theorem dL_unlike_1 : decode cL_unlike 1 = .ok (.iconst 0, 1) := by decide +kernel
theorem dL_unlike_2 : decode cL_unlike 2 = .ok (.aload_n 0, 1) := by decide +kernel
theorem dL_unlike_3 : decode cL_unlike 3 = .ok (.iload_n 1, 1) := by decide +kernel
theorem dL_unlike_4 : decode cL_unlike 4 = .ok (.iload_n 2, 1) := by decide +kernel
theorem dL_unlike_5 : decode cL_unlike 5 = .ok (.invokevirtual 46, 3) := by decide +kernel
theorem dL_unlike_8 : decode cL_unlike 8 = .ok (.i2l, 1) := by decide +kernel
theorem dL_unlike_9 : decode cL_unlike 9 = .ok (.lastore, 1) := by decide +kernel
theorem dL_unlike_10 : decode cL_unlike 10 = .ok (.goto 7, 3) := by decide +kernel
theorem dL_unlike_13 : decode cL_unlike 13 = .ok (.astore 4, 2) := by decide +kernel
theorem dL_unlike_15 : decode cL_unlike 15 = .ok (.iconst 1, 1) := by decide +kernel
theorem dL_unlike_16 : decode cL_unlike 16 = .ok (.ireturn, 1) := by decide +kernel
theorem dL_unlike_17 : decode cL_unlike 17 = .ok (.iconst 0, 1) := by decide +kernel
theorem dL_unlike_18 : decode cL_unlike 18 = .ok (.ireturn, 1) := by decide +kernel
abbrev mL_unlike : MM := (RL, cL_unlike, 5, (some .int), yL_unlike, tableOf [(0, 10, 13, 18)])
theorem fs_L_unlike : MsYSW mL_unlike [(0, 10, 13, 18)] := ⟨List.mem_of_getElem? (i := 1239) (by decide +kernel), List.mem_of_getElem? (i := 138) (by decide +kernel), List.mem_of_getElem? (i := 1240) (by decide +kernel), by decide +kernel, by decide +kernel, by decide⟩
theorem hc_L_unlike {G : MG} : ∀ e v, hn_n e = some v → MsCatch mL_unlike G 5 e v := hn_nc ⟨[], ⟨0, 10, 13, 18⟩, [], 15, 1, rfl, (fun z hz => by cases hz), rfl, by decide, List.mem_of_getElem? (i := 982) (by decide +kernel), List.mem_of_getElem? (i := 992) (by decide +kernel), Or.inr ⟨4, dL_unlike_13, by decide, rfl⟩, dL_unlike_15, by decide +kernel, dL_unlike_16, rfl⟩
def f_L_unlike (σ : MsSt) (l1 : Int32) (l2 : Int32) : Option (Int32 × MsSt) :=
  ms_cx2 (f_X10_unlike σ 0 l1 l2) (fun v1 s2 =>
    (ms_asj s2 517 0 v1.toInt64).bind fun s3 =>
    some (0, s3))
    hn_n
set_option maxRecDepth 100000 in
theorem sp_L_unlike (G : MG) (hG : (g_l G).stackTraces = false) (d : Nat) (hd : 9 ≤ d) (σ : MsSt) (l1 : Int32) (l2 : Int32) : MsSpecW G mL_unlike [(0, 10, 13, 18)] d 2 12 [.ref 0, .int l1, .int l2, .ref 517] σ ms_wi (f_L_unlike σ l1 l2) := by
  refine ms_startW (by decide +kernel) rfl rfl (Nat.le_of_ble_eq_true rfl) ?_
  show TrO G mL_unlike d 2 12 0 0 ms_wi 0 [(0, .ref 0), (1, .int l1), (2, .int l2), (3, .ref 517)] [] σ (ms_cx2 (f_X10_unlike σ 0 l1 l2) (fun v1 s2 => (ms_asj s2 517 0 v1.toInt64).bind fun s3 => some (0, s3)) hn_n)
  refine tr_aload_n (i := 3) dL_unlike_0 rfl ?_
  refine tr_iconst (v := 0) dL_unlike_1 (by decide +kernel) ?_
  refine tr_aload_n (i := 0) dL_unlike_2 rfl ?_
  refine tr_iload_n (i := 1) dL_unlike_3 rfl ?_
  refine tr_iload_n (i := 2) dL_unlike_4 rfl ?_
  refine tr_cx2 (val := Value.int) (fun _ _ => rfl) (fun _ _ => rfl) (ms_cV (rest := [.int 0, .ref 517]) (al := [.int l1, .int l2]) 10 (sp_X10_unlike G hG (d - 1) (by omega) σ 0 l1 l2 kd_0) kd_0 (by decide +kernel) kl_L_46 fv_X10_unlike dL_unlike_5 (show _ = some 2 by decide +kernel) (by omega) (Nat.le_of_ble_eq_true rfl) (by decide) (by decide)) (by decide) (by decide) hc_L_unlike (fun v1 s2 => ?_)
  refine tr_i2l dL_unlike_8 ?_
  refine tr_asj kd_517 dL_unlike_9 (fun s3 => ?_)
  refine tr_goto (tgt := 17) dL_unlike_10 (by decide) ?_
  refine tr_iconst (v := 0) dL_unlike_17 (by decide +kernel) ?_
  exact tr_iret rfl rfl (by decide) (by decide) dL_unlike_18
theorem dL_clusterOf_0 : decode cL_clusterOf 0 = .ok (.aload_n 3, 1) := by decide +kernel
theorem dL_clusterOf_1 : decode cL_clusterOf 1 = .ok (.iconst 0, 1) := by decide +kernel
theorem dL_clusterOf_2 : decode cL_clusterOf 2 = .ok (.aload_n 0, 1) := by decide +kernel
theorem dL_clusterOf_3 : decode cL_clusterOf 3 = .ok (.iload_n 1, 1) := by decide +kernel
theorem dL_clusterOf_4 : decode cL_clusterOf 4 = .ok (.iload_n 2, 1) := by decide +kernel
theorem dL_clusterOf_5 : decode cL_clusterOf 5 = .ok (.invokevirtual 49, 3) := by decide +kernel
theorem dL_clusterOf_8 : decode cL_clusterOf 8 = .ok (.i2l, 1) := by decide +kernel
theorem dL_clusterOf_9 : decode cL_clusterOf 9 = .ok (.lastore, 1) := by decide +kernel
theorem dL_clusterOf_10 : decode cL_clusterOf 10 = .ok (.goto 7, 3) := by decide +kernel
theorem dL_clusterOf_13 : decode cL_clusterOf 13 = .ok (.astore 4, 2) := by decide +kernel
theorem dL_clusterOf_15 : decode cL_clusterOf 15 = .ok (.iconst 1, 1) := by decide +kernel
theorem dL_clusterOf_16 : decode cL_clusterOf 16 = .ok (.ireturn, 1) := by decide +kernel
theorem dL_clusterOf_17 : decode cL_clusterOf 17 = .ok (.iconst 0, 1) := by decide +kernel
theorem dL_clusterOf_18 : decode cL_clusterOf 18 = .ok (.ireturn, 1) := by decide +kernel
abbrev mL_clusterOf : MM := (RL, cL_clusterOf, 5, (some .int), yL_clusterOf, tableOf [(0, 10, 13, 18)])
theorem fs_L_clusterOf : MsYSW mL_clusterOf [(0, 10, 13, 18)] := ⟨List.mem_of_getElem? (i := 1250) (by decide +kernel), List.mem_of_getElem? (i := 138) (by decide +kernel), List.mem_of_getElem? (i := 1251) (by decide +kernel), by decide +kernel, by decide +kernel, by decide⟩
theorem hc_L_clusterOf {G : MG} : ∀ e v, hn_n e = some v → MsCatch mL_clusterOf G 5 e v := hn_nc ⟨[], ⟨0, 10, 13, 18⟩, [], 15, 1, rfl, (fun z hz => by cases hz), rfl, by decide, List.mem_of_getElem? (i := 982) (by decide +kernel), List.mem_of_getElem? (i := 992) (by decide +kernel), Or.inr ⟨4, dL_clusterOf_13, by decide, rfl⟩, dL_clusterOf_15, by decide +kernel, dL_clusterOf_16, rfl⟩
def f_L_clusterOf (σ : MsSt) (l1 : Int32) (l2 : Int32) : Option (Int32 × MsSt) :=
  ms_ct (f_X10_clusterOf σ 0 l1 l2) σ (fun v1 =>
    (ms_asj σ 517 0 v1.toInt64).bind fun s2 =>
    some (0, s2))
    hn_n
set_option maxRecDepth 100000 in
theorem sp_L_clusterOf (G : MG) (hG : (g_l G).stackTraces = false) (d : Nat) (hd : 9 ≤ d) (σ : MsSt) (l1 : Int32) (l2 : Int32) : MsSpecW G mL_clusterOf [(0, 10, 13, 18)] d 2 12 [.ref 0, .int l1, .int l2, .ref 517] σ ms_wi (f_L_clusterOf σ l1 l2) := by
  refine ms_startW (by decide +kernel) rfl rfl (Nat.le_of_ble_eq_true rfl) ?_
  show TrO G mL_clusterOf d 2 12 0 0 ms_wi 0 [(0, .ref 0), (1, .int l1), (2, .int l2), (3, .ref 517)] [] σ (ms_ct (f_X10_clusterOf σ 0 l1 l2) σ (fun v1 => (ms_asj σ 517 0 v1.toInt64).bind fun s2 => some (0, s2)) hn_n)
  refine tr_aload_n (i := 3) dL_clusterOf_0 rfl ?_
  refine tr_iconst (v := 0) dL_clusterOf_1 (by decide +kernel) ?_
  refine tr_aload_n (i := 0) dL_clusterOf_2 rfl ?_
  refine tr_iload_n (i := 1) dL_clusterOf_3 rfl ?_
  refine tr_iload_n (i := 2) dL_clusterOf_4 rfl ?_
  refine tr_ct (val := Value.int) (fun _ => rfl) (fun _ => rfl) (ms_cV (rest := [.int 0, .ref 517]) (al := [.int l1, .int l2]) 10 (sp_X10_clusterOf G hG (d - 1) (by omega) σ 0 l1 l2 kd_0) kd_0 (by decide +kernel) kl_L_49 fv_X10_clusterOf dL_clusterOf_5 (show _ = some 2 by decide +kernel) (by omega) (Nat.le_of_ble_eq_true rfl) (by decide) (by decide)) (by decide) (by decide) hc_L_clusterOf (fun v1 => ?_)
  refine tr_i2l dL_clusterOf_8 ?_
  refine tr_asj kd_517 dL_clusterOf_9 (fun s2 => ?_)
  refine tr_goto (tgt := 17) dL_clusterOf_10 (by decide) ?_
  refine tr_iconst (v := 0) dL_clusterOf_17 (by decide +kernel) ?_
  exact tr_iret rfl rfl (by decide) (by decide) dL_clusterOf_18
theorem dL_cluster_0 : decode cL_cluster 0 = .ok (.aload 4, 2) := by decide +kernel
theorem dL_cluster_2 : decode cL_cluster 2 = .ok (.iconst 0, 1) := by decide +kernel
theorem dL_cluster_3 : decode cL_cluster 3 = .ok (.aload_n 0, 1) := by decide +kernel
theorem dL_cluster_4 : decode cL_cluster 4 = .ok (.iload_n 1, 1) := by decide +kernel
theorem dL_cluster_5 : decode cL_cluster 5 = .ok (.iload_n 2, 1) := by decide +kernel
theorem dL_cluster_6 : decode cL_cluster 6 = .ok (.iload_n 3, 1) := by decide +kernel
theorem dL_cluster_7 : decode cL_cluster 7 = .ok (.invokevirtual 52, 3) := by decide +kernel
theorem dL_cluster_10 : decode cL_cluster 10 = .ok (.i2l, 1) := by decide +kernel
theorem dL_cluster_11 : decode cL_cluster 11 = .ok (.lastore, 1) := by decide +kernel
theorem dL_cluster_12 : decode cL_cluster 12 = .ok (.goto 7, 3) := by decide +kernel
theorem dL_cluster_15 : decode cL_cluster 15 = .ok (.astore 5, 2) := by decide +kernel
theorem dL_cluster_17 : decode cL_cluster 17 = .ok (.iconst 1, 1) := by decide +kernel
theorem dL_cluster_18 : decode cL_cluster 18 = .ok (.ireturn, 1) := by decide +kernel
theorem dL_cluster_19 : decode cL_cluster 19 = .ok (.iconst 0, 1) := by decide +kernel
theorem dL_cluster_20 : decode cL_cluster 20 = .ok (.ireturn, 1) := by decide +kernel
abbrev mL_cluster : MM := (RL, cL_cluster, 6, (some .int), yL_cluster, tableOf [(0, 12, 15, 18)])
theorem fs_L_cluster : MsYSW mL_cluster [(0, 12, 15, 18)] := ⟨List.mem_of_getElem? (i := 1262) (by decide +kernel), List.mem_of_getElem? (i := 138) (by decide +kernel), List.mem_of_getElem? (i := 1263) (by decide +kernel), by decide +kernel, by decide +kernel, by decide⟩
theorem hc_L_cluster {G : MG} : ∀ e v, hn_n e = some v → MsCatch mL_cluster G 7 e v := hn_nc ⟨[], ⟨0, 12, 15, 18⟩, [], 17, 1, rfl, (fun z hz => by cases hz), rfl, by decide, List.mem_of_getElem? (i := 982) (by decide +kernel), List.mem_of_getElem? (i := 992) (by decide +kernel), Or.inr ⟨5, dL_cluster_15, by decide, rfl⟩, dL_cluster_17, by decide +kernel, dL_cluster_18, rfl⟩
def f_L_cluster (σ : MsSt) (l1 : Int32) (l2 : Int32) (l3 : Int32) : Option (Int32 × MsSt) :=
  ms_cx2 (f_X10_cluster σ 0 l1 l2 l3) (fun v1 s2 =>
    (ms_asj s2 517 0 v1.toInt64).bind fun s3 =>
    some (0, s3))
    hn_n
set_option maxRecDepth 100000 in
theorem sp_L_cluster (G : MG) (hG : (g_l G).stackTraces = false) (d : Nat) (hd : 10 ≤ d) (σ : MsSt) (l1 : Int32) (l2 : Int32) (l3 : Int32) : MsSpecW G mL_cluster [(0, 12, 15, 18)] d 3 18 [.ref 0, .int l1, .int l2, .int l3, .ref 517] σ ms_wi (f_L_cluster σ l1 l2 l3) := by
  refine ms_startW (by decide +kernel) rfl rfl (Nat.le_of_ble_eq_true rfl) ?_
  show TrO G mL_cluster d 3 18 0 0 ms_wi 0 [(0, .ref 0), (1, .int l1), (2, .int l2), (3, .int l3), (4, .ref 517)] [] σ (ms_cx2 (f_X10_cluster σ 0 l1 l2 l3) (fun v1 s2 => (ms_asj s2 517 0 v1.toInt64).bind fun s3 => some (0, s3)) hn_n)
  refine tr_aload (i := 4) dL_cluster_0 rfl ?_
  refine tr_iconst (v := 0) dL_cluster_2 (by decide +kernel) ?_
  refine tr_aload_n (i := 0) dL_cluster_3 rfl ?_
  refine tr_iload_n (i := 1) dL_cluster_4 rfl ?_
  refine tr_iload_n (i := 2) dL_cluster_5 rfl ?_
  refine tr_iload_n (i := 3) dL_cluster_6 rfl ?_
  refine tr_cx2 (val := Value.int) (fun _ _ => rfl) (fun _ _ => rfl) (ms_cV (rest := [.int 0, .ref 517]) (al := [.int l1, .int l2, .int l3]) 10 (sp_X10_cluster G hG (d - 1) (by omega) σ 0 l1 l2 l3 kd_0) kd_0 (by decide +kernel) kl_L_52 fv_X10_cluster dL_cluster_7 (show _ = some 3 by decide +kernel) (by omega) (Nat.le_of_ble_eq_true rfl) (by decide) (by decide)) (by decide) (by decide) hc_L_cluster (fun v1 s2 => ?_)
  refine tr_i2l dL_cluster_10 ?_
  refine tr_asj kd_517 dL_cluster_11 (fun s3 => ?_)
  refine tr_goto (tgt := 19) dL_cluster_12 (by decide) ?_
  refine tr_iconst (v := 0) dL_cluster_19 (by decide +kernel) ?_
  exact tr_iret rfl rfl (by decide) (by decide) dL_cluster_20
theorem dL_box_0 : decode cL_box 0 = .ok (.aload 5, 2) := by decide +kernel
theorem dL_box_2 : decode cL_box 2 = .ok (.iconst 0, 1) := by decide +kernel
theorem dL_box_3 : decode cL_box 3 = .ok (.aload_n 0, 1) := by decide +kernel
theorem dL_box_4 : decode cL_box 4 = .ok (.iload_n 1, 1) := by decide +kernel
theorem dL_box_5 : decode cL_box 5 = .ok (.iload_n 2, 1) := by decide +kernel
theorem dL_box_6 : decode cL_box 6 = .ok (.iload_n 3, 1) := by decide +kernel
theorem dL_box_7 : decode cL_box 7 = .ok (.iload 4, 2) := by decide +kernel
theorem dL_box_9 : decode cL_box 9 = .ok (.invokevirtual 55, 3) := by decide +kernel
theorem dL_box_12 : decode cL_box 12 = .ok (.i2l, 1) := by decide +kernel
theorem dL_box_13 : decode cL_box 13 = .ok (.lastore, 1) := by decide +kernel
theorem dL_box_14 : decode cL_box 14 = .ok (.goto 7, 3) := by decide +kernel
theorem dL_box_17 : decode cL_box 17 = .ok (.astore 6, 2) := by decide +kernel
theorem dL_box_19 : decode cL_box 19 = .ok (.iconst 1, 1) := by decide +kernel
theorem dL_box_20 : decode cL_box 20 = .ok (.ireturn, 1) := by decide +kernel
theorem dL_box_21 : decode cL_box 21 = .ok (.iconst 0, 1) := by decide +kernel
theorem dL_box_22 : decode cL_box 22 = .ok (.ireturn, 1) := by decide +kernel
abbrev mL_box : MM := (RL, cL_box, 7, (some .int), yL_box, tableOf [(0, 14, 17, 18)])
theorem fs_L_box : MsYSW mL_box [(0, 14, 17, 18)] := ⟨List.mem_of_getElem? (i := 1277) (by decide +kernel), List.mem_of_getElem? (i := 138) (by decide +kernel), List.mem_of_getElem? (i := 1278) (by decide +kernel), by decide +kernel, by decide +kernel, by decide⟩
theorem hc_L_box {G : MG} : ∀ e v, hn_n e = some v → MsCatch mL_box G 9 e v := hn_nc ⟨[], ⟨0, 14, 17, 18⟩, [], 19, 1, rfl, (fun z hz => by cases hz), rfl, by decide, List.mem_of_getElem? (i := 982) (by decide +kernel), List.mem_of_getElem? (i := 992) (by decide +kernel), Or.inr ⟨6, dL_box_17, by decide, rfl⟩, dL_box_19, by decide +kernel, dL_box_20, rfl⟩
def f_L_box (σ : MsSt) (l1 : Int32) (l2 : Int32) (l3 : Int32) (l4 : Int32) : Option (Int32 × MsSt) :=
  ms_cx2 (f_X10_box σ 0 l1 l2 l3 l4) (fun v1 s2 =>
    (ms_asj s2 517 0 v1.toInt64).bind fun s3 =>
    some (0, s3))
    hn_n
set_option maxRecDepth 100000 in
theorem sp_L_box (G : MG) (hG : (g_l G).stackTraces = false) (d : Nat) (hd : 10 ≤ d) (σ : MsSt) (l1 : Int32) (l2 : Int32) (l3 : Int32) (l4 : Int32) : MsSpecW G mL_box [(0, 14, 17, 18)] d 4 24 [.ref 0, .int l1, .int l2, .int l3, .int l4, .ref 517] σ ms_wi (f_L_box σ l1 l2 l3 l4) := by
  refine ms_startW (by decide +kernel) rfl rfl (Nat.le_of_ble_eq_true rfl) ?_
  show TrO G mL_box d 4 24 0 0 ms_wi 0 [(0, .ref 0), (1, .int l1), (2, .int l2), (3, .int l3), (4, .int l4), (5, .ref 517)] [] σ (ms_cx2 (f_X10_box σ 0 l1 l2 l3 l4) (fun v1 s2 => (ms_asj s2 517 0 v1.toInt64).bind fun s3 => some (0, s3)) hn_n)
  refine tr_aload (i := 5) dL_box_0 rfl ?_
  refine tr_iconst (v := 0) dL_box_2 (by decide +kernel) ?_
  refine tr_aload_n (i := 0) dL_box_3 rfl ?_
  refine tr_iload_n (i := 1) dL_box_4 rfl ?_
  refine tr_iload_n (i := 2) dL_box_5 rfl ?_
  refine tr_iload_n (i := 3) dL_box_6 rfl ?_
  refine tr_iload (i := 4) dL_box_7 rfl ?_
  refine tr_cx2 (val := Value.int) (fun _ _ => rfl) (fun _ _ => rfl) (ms_cV (rest := [.int 0, .ref 517]) (al := [.int l1, .int l2, .int l3, .int l4]) 10 (sp_X10_box G hG (d - 1) (by omega) σ 0 l1 l2 l3 l4 kd_0) kd_0 (by decide +kernel) kl_L_55 fv_X10_box dL_box_9 (show _ = some 4 by decide +kernel) (by omega) (Nat.le_of_ble_eq_true rfl) (by decide) (by decide)) (by decide) (by decide) hc_L_box (fun v1 s2 => ?_)
  refine tr_i2l dL_box_12 ?_
  refine tr_asj kd_517 dL_box_13 (fun s3 => ?_)
  refine tr_goto (tgt := 21) dL_box_14 (by decide) ?_
  refine tr_iconst (v := 0) dL_box_21 (by decide +kernel) ?_
  exact tr_iret rfl rfl (by decide) (by decide) dL_box_22
theorem dL_spellings_0 : decode cL_spellings 0 = .ok (.aload_n 3, 1) := by decide +kernel
theorem dL_spellings_1 : decode cL_spellings 1 = .ok (.iconst 0, 1) := by decide +kernel
theorem dL_spellings_2 : decode cL_spellings 2 = .ok (.aload_n 0, 1) := by decide +kernel
theorem dL_spellings_3 : decode cL_spellings 3 = .ok (.iload_n 1, 1) := by decide +kernel
theorem dL_spellings_4 : decode cL_spellings 4 = .ok (.iload_n 2, 1) := by decide +kernel
theorem dL_spellings_5 : decode cL_spellings 5 = .ok (.invokevirtual 59, 3) := by decide +kernel
theorem dL_spellings_8 : decode cL_spellings 8 = .ok (.lastore, 1) := by decide +kernel
theorem dL_spellings_9 : decode cL_spellings 9 = .ok (.goto 7, 3) := by decide +kernel
theorem dL_spellings_12 : decode cL_spellings 12 = .ok (.astore 4, 2) := by decide +kernel
theorem dL_spellings_14 : decode cL_spellings 14 = .ok (.iconst 1, 1) := by decide +kernel
theorem dL_spellings_15 : decode cL_spellings 15 = .ok (.ireturn, 1) := by decide +kernel
theorem dL_spellings_16 : decode cL_spellings 16 = .ok (.iconst 0, 1) := by decide +kernel
theorem dL_spellings_17 : decode cL_spellings 17 = .ok (.ireturn, 1) := by decide +kernel
abbrev mL_spellings : MM := (RL, cL_spellings, 5, (some .int), yL_spellings, tableOf [(0, 9, 12, 18)])
theorem fs_L_spellings : MsYSW mL_spellings [(0, 9, 12, 18)] := ⟨List.mem_of_getElem? (i := 1284) (by decide +kernel), List.mem_of_getElem? (i := 138) (by decide +kernel), List.mem_of_getElem? (i := 1285) (by decide +kernel), by decide +kernel, by decide +kernel, by decide⟩
theorem hc_L_spellings {G : MG} : ∀ e v, hn_n e = some v → MsCatch mL_spellings G 5 e v := hn_nc ⟨[], ⟨0, 9, 12, 18⟩, [], 14, 1, rfl, (fun z hz => by cases hz), rfl, by decide, List.mem_of_getElem? (i := 982) (by decide +kernel), List.mem_of_getElem? (i := 992) (by decide +kernel), Or.inr ⟨4, dL_spellings_12, by decide, rfl⟩, dL_spellings_14, by decide +kernel, dL_spellings_15, rfl⟩
def f_L_spellings (σ : MsSt) (l1 : Int32) (l2 : Int32) : Option (Int32 × MsSt) :=
  ms_cx2 (f_X10_spellings σ 0 l1 l2) (fun v1 s2 =>
    (ms_asj s2 517 0 v1).bind fun s3 =>
    some (0, s3))
    hn_n
set_option maxRecDepth 100000 in
theorem sp_L_spellings (G : MG) (hG : (g_l G).stackTraces = false) (d : Nat) (hd : 10 ≤ d) (σ : MsSt) (l1 : Int32) (l2 : Int32) : MsSpecW G mL_spellings [(0, 9, 12, 18)] d 2 12 [.ref 0, .int l1, .int l2, .ref 517] σ ms_wi (f_L_spellings σ l1 l2) := by
  refine ms_startW (by decide +kernel) rfl rfl (Nat.le_of_ble_eq_true rfl) ?_
  show TrO G mL_spellings d 2 12 0 0 ms_wi 0 [(0, .ref 0), (1, .int l1), (2, .int l2), (3, .ref 517)] [] σ (ms_cx2 (f_X10_spellings σ 0 l1 l2) (fun v1 s2 => (ms_asj s2 517 0 v1).bind fun s3 => some (0, s3)) hn_n)
  refine tr_aload_n (i := 3) dL_spellings_0 rfl ?_
  refine tr_iconst (v := 0) dL_spellings_1 (by decide +kernel) ?_
  refine tr_aload_n (i := 0) dL_spellings_2 rfl ?_
  refine tr_iload_n (i := 1) dL_spellings_3 rfl ?_
  refine tr_iload_n (i := 2) dL_spellings_4 rfl ?_
  refine tr_cx2 (val := Value.long) (fun _ _ => rfl) (fun _ _ => rfl) (ms_cV (rest := [.int 0, .ref 517]) (al := [.int l1, .int l2]) 10 (sp_X10_spellings G hG (d - 1) (by omega) σ 0 l1 l2 kd_0) kd_0 (by decide +kernel) kl_L_59 fv_X10_spellings dL_spellings_5 (show _ = some 2 by decide +kernel) (by omega) (Nat.le_of_ble_eq_true rfl) (by decide) (by decide)) (by decide) (by decide) hc_L_spellings (fun v1 s2 => ?_)
  refine tr_asj kd_517 dL_spellings_8 (fun s3 => ?_)
  refine tr_goto (tgt := 16) dL_spellings_9 (by decide) ?_
  refine tr_iconst (v := 0) dL_spellings_16 (by decide +kernel) ?_
  exact tr_iret rfl rfl (by decide) (by decide) dL_spellings_17
theorem dL_clashes_0 : decode cL_clashes 0 = .ok (.aload_n 3, 1) := by decide +kernel
theorem dL_clashes_1 : decode cL_clashes 1 = .ok (.iconst 0, 1) := by decide +kernel
theorem dL_clashes_2 : decode cL_clashes 2 = .ok (.aload_n 0, 1) := by decide +kernel
theorem dL_clashes_3 : decode cL_clashes 3 = .ok (.iload_n 1, 1) := by decide +kernel
theorem dL_clashes_4 : decode cL_clashes 4 = .ok (.iload_n 2, 1) := by decide +kernel
theorem dL_clashes_5 : decode cL_clashes 5 = .ok (.invokevirtual 63, 3) := by decide +kernel
theorem dL_clashes_8 : decode cL_clashes 8 = .ok (.ifCond .eq 7, 3) := by decide +kernel
theorem dL_clashes_11 : decode cL_clashes 11 = .ok (.lconst 1, 1) := by decide +kernel
theorem dL_clashes_12 : decode cL_clashes 12 = .ok (.goto 4, 3) := by decide +kernel
theorem dL_clashes_15 : decode cL_clashes 15 = .ok (.lconst 0, 1) := by decide +kernel
theorem dL_clashes_16 : decode cL_clashes 16 = .ok (.lastore, 1) := by decide +kernel
theorem dL_clashes_17 : decode cL_clashes 17 = .ok (.goto 7, 3) := by decide +kernel
theorem dL_clashes_20 : decode cL_clashes 20 = .ok (.astore 4, 2) := by decide +kernel
theorem dL_clashes_22 : decode cL_clashes 22 = .ok (.iconst 1, 1) := by decide +kernel
theorem dL_clashes_23 : decode cL_clashes 23 = .ok (.ireturn, 1) := by decide +kernel
theorem dL_clashes_24 : decode cL_clashes 24 = .ok (.iconst 0, 1) := by decide +kernel
theorem dL_clashes_25 : decode cL_clashes 25 = .ok (.ireturn, 1) := by decide +kernel
abbrev mL_clashes : MM := (RL, cL_clashes, 5, (some .int), yL_clashes, tableOf [(0, 17, 20, 18)])
theorem fs_L_clashes : MsYSW mL_clashes [(0, 17, 20, 18)] := ⟨List.mem_of_getElem? (i := 1296) (by decide +kernel), List.mem_of_getElem? (i := 138) (by decide +kernel), List.mem_of_getElem? (i := 1297) (by decide +kernel), by decide +kernel, by decide +kernel, by decide⟩
theorem hc_L_clashes {G : MG} : ∀ e v, hn_n e = some v → MsCatch mL_clashes G 5 e v := hn_nc ⟨[], ⟨0, 17, 20, 18⟩, [], 22, 1, rfl, (fun z hz => by cases hz), rfl, by decide, List.mem_of_getElem? (i := 982) (by decide +kernel), List.mem_of_getElem? (i := 992) (by decide +kernel), Or.inr ⟨4, dL_clashes_20, by decide, rfl⟩, dL_clashes_22, by decide +kernel, dL_clashes_23, rfl⟩
def f_L_clashes (σ : MsSt) (l1 : Int32) (l2 : Int32) : Option (Int32 × MsSt) :=
  ms_cx2 (f_X10_clashes σ 0 l1 l2) (fun v1 s2 =>
    if v1 = 0 then
      (ms_asj s2 517 0 0).bind fun s3 =>
      some (0, s3)
    else
      (ms_asj s2 517 0 1).bind fun s4 =>
      some (0, s4))
    hn_n
set_option maxRecDepth 100000 in
theorem sp_L_clashes (G : MG) (hG : (g_l G).stackTraces = false) (d : Nat) (hd : 10 ≤ d) (σ : MsSt) (l1 : Int32) (l2 : Int32) : MsSpecW G mL_clashes [(0, 17, 20, 18)] d 3 18 [.ref 0, .int l1, .int l2, .ref 517] σ ms_wi (f_L_clashes σ l1 l2) := by
  refine ms_startW (by decide +kernel) rfl rfl (Nat.le_of_ble_eq_true rfl) ?_
  show TrO G mL_clashes d 3 18 0 0 ms_wi 0 [(0, .ref 0), (1, .int l1), (2, .int l2), (3, .ref 517)] [] σ (ms_cx2 (f_X10_clashes σ 0 l1 l2) (fun v1 s2 => if v1 = 0 then (ms_asj s2 517 0 0).bind fun s3 => some (0, s3) else (ms_asj s2 517 0 1).bind fun s4 => some (0, s4)) hn_n)
  refine tr_aload_n (i := 3) dL_clashes_0 rfl ?_
  refine tr_iconst (v := 0) dL_clashes_1 (by decide +kernel) ?_
  refine tr_aload_n (i := 0) dL_clashes_2 rfl ?_
  refine tr_iload_n (i := 1) dL_clashes_3 rfl ?_
  refine tr_iload_n (i := 2) dL_clashes_4 rfl ?_
  refine tr_cx2 (val := Value.int) (fun _ _ => rfl) (fun _ _ => rfl) (ms_cV (rest := [.int 0, .ref 517]) (al := [.int l1, .int l2]) 10 (sp_X10_clashes G hG (d - 1) (by omega) σ 0 l1 l2 kd_0) kd_0 (by decide +kernel) kl_L_63 fv_X10_clashes dL_clashes_5 (show _ = some 2 by decide +kernel) (by omega) (Nat.le_of_ble_eq_true rfl) (by decide) (by decide)) (by decide) (by decide) hc_L_clashes (fun v1 s2 => ?_)
  refine tr_ifeq (o := none) (tgt := 15) dL_clashes_8 (by decide) ?_ ?_
  · refine tr_lconst (v := 0) dL_clashes_15 (by decide +kernel) ?_
    refine tr_asj kd_517 dL_clashes_16 (fun s3 => ?_)
    refine tr_goto (tgt := 24) dL_clashes_17 (by decide) ?_
    refine tr_iconst (v := 0) dL_clashes_24 (by decide +kernel) ?_
    exact tr_iret rfl rfl (by decide) (by decide) dL_clashes_25
  · refine tr_lconst (v := 1) dL_clashes_11 (by decide +kernel) ?_
    refine tr_goto (tgt := 16) dL_clashes_12 (by decide) ?_
    refine tr_asj kd_517 dL_clashes_16 (fun s4 => ?_)
    refine tr_goto (tgt := 24) dL_clashes_17 (by decide) ?_
    refine tr_iconst (v := 0) dL_clashes_24 (by decide +kernel) ?_
    exact tr_iret rfl rfl (by decide) (by decide) dL_clashes_25
theorem dL_fullest_0 : decode cL_fullest 0 = .ok (.aload_n 2, 1) := by decide +kernel
theorem dL_fullest_1 : decode cL_fullest 1 = .ok (.iconst 0, 1) := by decide +kernel
theorem dL_fullest_2 : decode cL_fullest 2 = .ok (.aload_n 0, 1) := by decide +kernel
theorem dL_fullest_3 : decode cL_fullest 3 = .ok (.iload_n 1, 1) := by decide +kernel
theorem dL_fullest_4 : decode cL_fullest 4 = .ok (.invokevirtual 67, 3) := by decide +kernel
theorem dL_fullest_7 : decode cL_fullest 7 = .ok (.i2l, 1) := by decide +kernel
theorem dL_fullest_8 : decode cL_fullest 8 = .ok (.lastore, 1) := by decide +kernel
theorem dL_fullest_9 : decode cL_fullest 9 = .ok (.goto 6, 3) := by decide +kernel
theorem dL_fullest_12 : decode cL_fullest 12 = .ok (.astore_n 3, 1) := by decide +kernel
theorem dL_fullest_13 : decode cL_fullest 13 = .ok (.iconst 1, 1) := by decide +kernel
theorem dL_fullest_14 : decode cL_fullest 14 = .ok (.ireturn, 1) := by decide +kernel
theorem dL_fullest_15 : decode cL_fullest 15 = .ok (.iconst 0, 1) := by decide +kernel
theorem dL_fullest_16 : decode cL_fullest 16 = .ok (.ireturn, 1) := by decide +kernel
abbrev mL_fullest : MM := (RL, cL_fullest, 4, (some .int), yL_fullest, tableOf [(0, 9, 12, 18)])
theorem fs_L_fullest : MsYSW mL_fullest [(0, 9, 12, 18)] := ⟨List.mem_of_getElem? (i := 1303) (by decide +kernel), List.mem_of_getElem? (i := 138) (by decide +kernel), List.mem_of_getElem? (i := 1304) (by decide +kernel), by decide +kernel, by decide +kernel, by decide⟩
theorem hc_L_fullest {G : MG} : ∀ e v, hn_n e = some v → MsCatch mL_fullest G 4 e v := hn_nc ⟨[], ⟨0, 9, 12, 18⟩, [], 13, 1, rfl, (fun z hz => by cases hz), rfl, by decide, List.mem_of_getElem? (i := 982) (by decide +kernel), List.mem_of_getElem? (i := 992) (by decide +kernel), Or.inl ⟨3, dL_fullest_12, by decide, rfl⟩, dL_fullest_13, by decide +kernel, dL_fullest_14, rfl⟩
def f_L_fullest (σ : MsSt) (l1 : Int32) : Option (Int32 × MsSt) :=
  ms_cx2 (f_X10_fullest σ 0 l1) (fun v1 s2 =>
    (ms_asj s2 517 0 v1.toInt64).bind fun s3 =>
    some (0, s3))
    hn_n
set_option maxRecDepth 100000 in
theorem sp_L_fullest (G : MG) (hG : (g_l G).stackTraces = false) (d : Nat) (hd : 9 ≤ d) (σ : MsSt) (l1 : Int32) : MsSpecW G mL_fullest [(0, 9, 12, 18)] d 1 6 [.ref 0, .int l1, .ref 517] σ ms_wi (f_L_fullest σ l1) := by
  refine ms_startW (by decide +kernel) rfl rfl (Nat.le_of_ble_eq_true rfl) ?_
  show TrO G mL_fullest d 1 6 0 0 ms_wi 0 [(0, .ref 0), (1, .int l1), (2, .ref 517)] [] σ (ms_cx2 (f_X10_fullest σ 0 l1) (fun v1 s2 => (ms_asj s2 517 0 v1.toInt64).bind fun s3 => some (0, s3)) hn_n)
  refine tr_aload_n (i := 2) dL_fullest_0 rfl ?_
  refine tr_iconst (v := 0) dL_fullest_1 (by decide +kernel) ?_
  refine tr_aload_n (i := 0) dL_fullest_2 rfl ?_
  refine tr_iload_n (i := 1) dL_fullest_3 rfl ?_
  refine tr_cx2 (val := Value.int) (fun _ _ => rfl) (fun _ _ => rfl) (ms_cV (rest := [.int 0, .ref 517]) (al := [.int l1]) 10 (sp_X10_fullest G hG (d - 1) (by omega) σ 0 l1 kd_0) kd_0 (by decide +kernel) kl_L_67 fv_X10_fullest dL_fullest_4 (show _ = some 1 by decide +kernel) (by omega) (Nat.le_of_ble_eq_true rfl) (by decide) (by decide)) (by decide) (by decide) hc_L_fullest (fun v1 s2 => ?_)
  refine tr_i2l dL_fullest_7 ?_
  refine tr_asj kd_517 dL_fullest_8 (fun s3 => ?_)
  refine tr_goto (tgt := 15) dL_fullest_9 (by decide) ?_
  refine tr_iconst (v := 0) dL_fullest_15 (by decide +kernel) ?_
  exact tr_iret rfl rfl (by decide) (by decide) dL_fullest_16
theorem dL_compare_0 : decode cL_compare 0 = .ok (.aload_n 3, 1) := by decide +kernel
theorem dL_compare_1 : decode cL_compare 1 = .ok (.iconst 0, 1) := by decide +kernel
theorem dL_compare_2 : decode cL_compare 2 = .ok (.aload_n 0, 1) := by decide +kernel
theorem dL_compare_3 : decode cL_compare 3 = .ok (.iload_n 1, 1) := by decide +kernel
theorem dL_compare_4 : decode cL_compare 4 = .ok (.iload_n 2, 1) := by decide +kernel
theorem dL_compare_5 : decode cL_compare 5 = .ok (.invokevirtual 70, 3) := by decide +kernel
theorem dL_compare_8 : decode cL_compare 8 = .ok (.i2l, 1) := by decide +kernel
theorem dL_compare_9 : decode cL_compare 9 = .ok (.lastore, 1) := by decide +kernel
theorem dL_compare_10 : decode cL_compare 10 = .ok (.goto 7, 3) := by decide +kernel
theorem dL_compare_13 : decode cL_compare 13 = .ok (.astore 4, 2) := by decide +kernel
theorem dL_compare_15 : decode cL_compare 15 = .ok (.iconst 1, 1) := by decide +kernel
theorem dL_compare_16 : decode cL_compare 16 = .ok (.ireturn, 1) := by decide +kernel
theorem dL_compare_17 : decode cL_compare 17 = .ok (.iconst 0, 1) := by decide +kernel
theorem dL_compare_18 : decode cL_compare 18 = .ok (.ireturn, 1) := by decide +kernel
abbrev mL_compare : MM := (RL, cL_compare, 5, (some .int), yL_compare, tableOf [(0, 10, 13, 18)])
theorem fs_L_compare : MsYSW mL_compare [(0, 10, 13, 18)] := ⟨List.mem_of_getElem? (i := 1310) (by decide +kernel), List.mem_of_getElem? (i := 138) (by decide +kernel), List.mem_of_getElem? (i := 1311) (by decide +kernel), by decide +kernel, by decide +kernel, by decide⟩
theorem hc_L_compare {G : MG} : ∀ e v, hn_n e = some v → MsCatch mL_compare G 5 e v := hn_nc ⟨[], ⟨0, 10, 13, 18⟩, [], 15, 1, rfl, (fun z hz => by cases hz), rfl, by decide, List.mem_of_getElem? (i := 982) (by decide +kernel), List.mem_of_getElem? (i := 992) (by decide +kernel), Or.inr ⟨4, dL_compare_13, by decide, rfl⟩, dL_compare_15, by decide +kernel, dL_compare_16, rfl⟩
def f_L_compare (σ : MsSt) (l1 : Int32) (l2 : Int32) : Option (Int32 × MsSt) :=
  ms_cx2 (f_X10_compare σ 0 l1 l2) (fun v1 s2 =>
    (ms_asj s2 517 0 v1.toInt64).bind fun s3 =>
    some (0, s3))
    hn_n
set_option maxRecDepth 100000 in
theorem sp_L_compare (G : MG) (hG : (g_l G).stackTraces = false) (d : Nat) (hd : 10 ≤ d) (σ : MsSt) (l1 : Int32) (l2 : Int32) : MsSpecW G mL_compare [(0, 10, 13, 18)] d 2 12 [.ref 0, .int l1, .int l2, .ref 517] σ ms_wi (f_L_compare σ l1 l2) := by
  refine ms_startW (by decide +kernel) rfl rfl (Nat.le_of_ble_eq_true rfl) ?_
  show TrO G mL_compare d 2 12 0 0 ms_wi 0 [(0, .ref 0), (1, .int l1), (2, .int l2), (3, .ref 517)] [] σ (ms_cx2 (f_X10_compare σ 0 l1 l2) (fun v1 s2 => (ms_asj s2 517 0 v1.toInt64).bind fun s3 => some (0, s3)) hn_n)
  refine tr_aload_n (i := 3) dL_compare_0 rfl ?_
  refine tr_iconst (v := 0) dL_compare_1 (by decide +kernel) ?_
  refine tr_aload_n (i := 0) dL_compare_2 rfl ?_
  refine tr_iload_n (i := 1) dL_compare_3 rfl ?_
  refine tr_iload_n (i := 2) dL_compare_4 rfl ?_
  refine tr_cx2 (val := Value.int) (fun _ _ => rfl) (fun _ _ => rfl) (ms_cV (rest := [.int 0, .ref 517]) (al := [.int l1, .int l2]) 10 (sp_X10_compare G hG (d - 1) (by omega) σ 0 l1 l2 kd_0) kd_0 (by decide +kernel) kl_L_70 fv_X10_compare dL_compare_5 (show _ = some 2 by decide +kernel) (by omega) (Nat.le_of_ble_eq_true rfl) (by decide) (by decide)) (by decide) (by decide) hc_L_compare (fun v1 s2 => ?_)
  refine tr_i2l dL_compare_8 ?_
  refine tr_asj kd_517 dL_compare_9 (fun s3 => ?_)
  refine tr_goto (tgt := 17) dL_compare_10 (by decide) ?_
  refine tr_iconst (v := 0) dL_compare_17 (by decide +kernel) ?_
  exact tr_iret rfl rfl (by decide) (by decide) dL_compare_18
theorem dL_areBare_0 : decode cL_areBare 0 = .ok (.aload_n 3, 1) := by decide +kernel
theorem dL_areBare_1 : decode cL_areBare 1 = .ok (.iconst 0, 1) := by decide +kernel
theorem dL_areBare_2 : decode cL_areBare 2 = .ok (.aload_n 0, 1) := by decide +kernel
theorem dL_areBare_3 : decode cL_areBare 3 = .ok (.iload_n 1, 1) := by decide +kernel
theorem dL_areBare_4 : decode cL_areBare 4 = .ok (.iload_n 2, 1) := by decide +kernel
theorem dL_areBare_5 : decode cL_areBare 5 = .ok (.invokevirtual 73, 3) := by decide +kernel
theorem dL_areBare_8 : decode cL_areBare 8 = .ok (.ifCond .eq 7, 3) := by decide +kernel
theorem dL_areBare_11 : decode cL_areBare 11 = .ok (.lconst 1, 1) := by decide +kernel
theorem dL_areBare_12 : decode cL_areBare 12 = .ok (.goto 4, 3) := by decide +kernel
theorem dL_areBare_15 : decode cL_areBare 15 = .ok (.lconst 0, 1) := by decide +kernel
theorem dL_areBare_16 : decode cL_areBare 16 = .ok (.lastore, 1) := by decide +kernel
theorem dL_areBare_17 : decode cL_areBare 17 = .ok (.goto 7, 3) := by decide +kernel
theorem dL_areBare_20 : decode cL_areBare 20 = .ok (.astore 4, 2) := by decide +kernel
theorem dL_areBare_22 : decode cL_areBare 22 = .ok (.iconst 1, 1) := by decide +kernel
theorem dL_areBare_23 : decode cL_areBare 23 = .ok (.ireturn, 1) := by decide +kernel
theorem dL_areBare_24 : decode cL_areBare 24 = .ok (.iconst 0, 1) := by decide +kernel
theorem dL_areBare_25 : decode cL_areBare 25 = .ok (.ireturn, 1) := by decide +kernel
abbrev mL_areBare : MM := (RL, cL_areBare, 5, (some .int), yL_areBare, tableOf [(0, 17, 20, 18)])
theorem fs_L_areBare : MsYSW mL_areBare [(0, 17, 20, 18)] := ⟨List.mem_of_getElem? (i := 1321) (by decide +kernel), List.mem_of_getElem? (i := 138) (by decide +kernel), List.mem_of_getElem? (i := 1322) (by decide +kernel), by decide +kernel, by decide +kernel, by decide⟩
theorem hc_L_areBare {G : MG} : ∀ e v, hn_n e = some v → MsCatch mL_areBare G 5 e v := hn_nc ⟨[], ⟨0, 17, 20, 18⟩, [], 22, 1, rfl, (fun z hz => by cases hz), rfl, by decide, List.mem_of_getElem? (i := 982) (by decide +kernel), List.mem_of_getElem? (i := 992) (by decide +kernel), Or.inr ⟨4, dL_areBare_20, by decide, rfl⟩, dL_areBare_22, by decide +kernel, dL_areBare_23, rfl⟩
def f_L_areBare (σ : MsSt) (l1 : Int32) (l2 : Int32) : Option (Int32 × MsSt) :=
  ms_cx2 (f_X10_areBare σ 0 l1 l2) (fun v1 s2 =>
    if v1 = 0 then
      (ms_asj s2 517 0 0).bind fun s3 =>
      some (0, s3)
    else
      (ms_asj s2 517 0 1).bind fun s4 =>
      some (0, s4))
    hn_n
set_option maxRecDepth 100000 in
theorem sp_L_areBare (G : MG) (hG : (g_l G).stackTraces = false) (d : Nat) (hd : 10 ≤ d) (σ : MsSt) (l1 : Int32) (l2 : Int32) : MsSpecW G mL_areBare [(0, 17, 20, 18)] d 2 12 [.ref 0, .int l1, .int l2, .ref 517] σ ms_wi (f_L_areBare σ l1 l2) := by
  refine ms_startW (by decide +kernel) rfl rfl (Nat.le_of_ble_eq_true rfl) ?_
  show TrO G mL_areBare d 2 12 0 0 ms_wi 0 [(0, .ref 0), (1, .int l1), (2, .int l2), (3, .ref 517)] [] σ (ms_cx2 (f_X10_areBare σ 0 l1 l2) (fun v1 s2 => if v1 = 0 then (ms_asj s2 517 0 0).bind fun s3 => some (0, s3) else (ms_asj s2 517 0 1).bind fun s4 => some (0, s4)) hn_n)
  refine tr_aload_n (i := 3) dL_areBare_0 rfl ?_
  refine tr_iconst (v := 0) dL_areBare_1 (by decide +kernel) ?_
  refine tr_aload_n (i := 0) dL_areBare_2 rfl ?_
  refine tr_iload_n (i := 1) dL_areBare_3 rfl ?_
  refine tr_iload_n (i := 2) dL_areBare_4 rfl ?_
  refine tr_cx2 (val := Value.int) (fun _ _ => rfl) (fun _ _ => rfl) (ms_cV (rest := [.int 0, .ref 517]) (al := [.int l1, .int l2]) 10 (sp_X10_areBare G hG (d - 1) (by omega) σ 0 l1 l2 kd_0) kd_0 (by decide +kernel) kl_L_73 fv_X10_areBare dL_areBare_5 (show _ = some 2 by decide +kernel) (by omega) (Nat.le_of_ble_eq_true rfl) (by decide) (by decide)) (by decide) (by decide) hc_L_areBare (fun v1 s2 => ?_)
  refine tr_ifeq (o := none) (tgt := 15) dL_areBare_8 (by decide) ?_ ?_
  · refine tr_lconst (v := 0) dL_areBare_15 (by decide +kernel) ?_
    refine tr_asj kd_517 dL_areBare_16 (fun s3 => ?_)
    refine tr_goto (tgt := 24) dL_areBare_17 (by decide) ?_
    refine tr_iconst (v := 0) dL_areBare_24 (by decide +kernel) ?_
    exact tr_iret rfl rfl (by decide) (by decide) dL_areBare_25
  · refine tr_lconst (v := 1) dL_areBare_11 (by decide +kernel) ?_
    refine tr_goto (tgt := 16) dL_areBare_12 (by decide) ?_
    refine tr_asj kd_517 dL_areBare_16 (fun s4 => ?_)
    refine tr_goto (tgt := 24) dL_areBare_17 (by decide) ?_
    refine tr_iconst (v := 0) dL_areBare_24 (by decide +kernel) ?_
    exact tr_iret rfl rfl (by decide) (by decide) dL_areBare_25
theorem dL_matches_0 : decode cL_matches 0 = .ok (.aload 4, 2) := by decide +kernel
theorem dL_matches_2 : decode cL_matches 2 = .ok (.iconst 0, 1) := by decide +kernel
theorem dL_matches_3 : decode cL_matches 3 = .ok (.aload_n 0, 1) := by decide +kernel
theorem dL_matches_4 : decode cL_matches 4 = .ok (.iload_n 1, 1) := by decide +kernel
theorem dL_matches_5 : decode cL_matches 5 = .ok (.iload_n 2, 1) := by decide +kernel
theorem dL_matches_6 : decode cL_matches 6 = .ok (.iload_n 3, 1) := by decide +kernel
theorem dL_matches_7 : decode cL_matches 7 = .ok (.invokevirtual 76, 3) := by decide +kernel
theorem dL_matches_10 : decode cL_matches 10 = .ok (.i2l, 1) := by decide +kernel
theorem dL_matches_11 : decode cL_matches 11 = .ok (.lastore, 1) := by decide +kernel
theorem dL_matches_12 : decode cL_matches 12 = .ok (.goto 7, 3) := by decide +kernel
theorem dL_matches_15 : decode cL_matches 15 = .ok (.astore 5, 2) := by decide +kernel
theorem dL_matches_17 : decode cL_matches 17 = .ok (.iconst 1, 1) := by decide +kernel
theorem dL_matches_18 : decode cL_matches 18 = .ok (.ireturn, 1) := by decide +kernel
theorem dL_matches_19 : decode cL_matches 19 = .ok (.iconst 0, 1) := by decide +kernel
theorem dL_matches_20 : decode cL_matches 20 = .ok (.ireturn, 1) := by decide +kernel
abbrev mL_matches : MM := (RL, cL_matches, 6, (some .int), yL_matches, tableOf [(0, 12, 15, 18)])
theorem fs_L_matches : MsYSW mL_matches [(0, 12, 15, 18)] := ⟨List.mem_of_getElem? (i := 1336) (by decide +kernel), List.mem_of_getElem? (i := 138) (by decide +kernel), List.mem_of_getElem? (i := 1337) (by decide +kernel), by decide +kernel, by decide +kernel, by decide⟩
theorem hc_L_matches {G : MG} : ∀ e v, hn_n e = some v → MsCatch mL_matches G 7 e v := hn_nc ⟨[], ⟨0, 12, 15, 18⟩, [], 17, 1, rfl, (fun z hz => by cases hz), rfl, by decide, List.mem_of_getElem? (i := 982) (by decide +kernel), List.mem_of_getElem? (i := 992) (by decide +kernel), Or.inr ⟨5, dL_matches_15, by decide, rfl⟩, dL_matches_17, by decide +kernel, dL_matches_18, rfl⟩
def f_L_matches (σ : MsSt) (l1 : Int32) (l2 : Int32) (l3 : Int32) : Option (Int32 × MsSt) :=
  ms_cx2 (f_X10_matches σ 0 l1 l2 l3) (fun v1 s2 =>
    (ms_asj s2 517 0 v1.toInt64).bind fun s3 =>
    some (0, s3))
    hn_n
set_option maxRecDepth 100000 in
theorem sp_L_matches (G : MG) (hG : (g_l G).stackTraces = false) (d : Nat) (hd : 10 ≤ d) (σ : MsSt) (l1 : Int32) (l2 : Int32) (l3 : Int32) : MsSpecW G mL_matches [(0, 12, 15, 18)] d 3 18 [.ref 0, .int l1, .int l2, .int l3, .ref 517] σ ms_wi (f_L_matches σ l1 l2 l3) := by
  refine ms_startW (by decide +kernel) rfl rfl (Nat.le_of_ble_eq_true rfl) ?_
  show TrO G mL_matches d 3 18 0 0 ms_wi 0 [(0, .ref 0), (1, .int l1), (2, .int l2), (3, .int l3), (4, .ref 517)] [] σ (ms_cx2 (f_X10_matches σ 0 l1 l2 l3) (fun v1 s2 => (ms_asj s2 517 0 v1.toInt64).bind fun s3 => some (0, s3)) hn_n)
  refine tr_aload (i := 4) dL_matches_0 rfl ?_
  refine tr_iconst (v := 0) dL_matches_2 (by decide +kernel) ?_
  refine tr_aload_n (i := 0) dL_matches_3 rfl ?_
  refine tr_iload_n (i := 1) dL_matches_4 rfl ?_
  refine tr_iload_n (i := 2) dL_matches_5 rfl ?_
  refine tr_iload_n (i := 3) dL_matches_6 rfl ?_
  refine tr_cx2 (val := Value.int) (fun _ _ => rfl) (fun _ _ => rfl) (ms_cV (rest := [.int 0, .ref 517]) (al := [.int l1, .int l2, .int l3]) 10 (sp_X10_matches G hG (d - 1) (by omega) σ 0 l1 l2 l3 kd_0) kd_0 (by decide +kernel) kl_L_76 fv_X10_matches dL_matches_7 (show _ = some 3 by decide +kernel) (by omega) (Nat.le_of_ble_eq_true rfl) (by decide) (by decide)) (by decide) (by decide) hc_L_matches (fun v1 s2 => ?_)
  refine tr_i2l dL_matches_10 ?_
  refine tr_asj kd_517 dL_matches_11 (fun s3 => ?_)
  refine tr_goto (tgt := 19) dL_matches_12 (by decide) ?_
  refine tr_iconst (v := 0) dL_matches_19 (by decide +kernel) ?_
  exact tr_iret rfl rfl (by decide) (by decide) dL_matches_20
theorem dL_match_0 : decode cL_match 0 = .ok (.aload 5, 2) := by decide +kernel
theorem dL_match_2 : decode cL_match 2 = .ok (.iconst 0, 1) := by decide +kernel
theorem dL_match_3 : decode cL_match 3 = .ok (.aload_n 0, 1) := by decide +kernel
theorem dL_match_4 : decode cL_match 4 = .ok (.iload_n 1, 1) := by decide +kernel
theorem dL_match_5 : decode cL_match 5 = .ok (.iload_n 2, 1) := by decide +kernel
theorem dL_match_6 : decode cL_match 6 = .ok (.iload_n 3, 1) := by decide +kernel
theorem dL_match_7 : decode cL_match 7 = .ok (.iload 4, 2) := by decide +kernel
theorem dL_match_9 : decode cL_match 9 = .ok (.invokevirtual 80, 3) := by decide +kernel
theorem dL_match_12 : decode cL_match 12 = .ok (.i2l, 1) := by decide +kernel
theorem dL_match_13 : decode cL_match 13 = .ok (.lastore, 1) := by decide +kernel
theorem dL_match_14 : decode cL_match 14 = .ok (.goto 7, 3) := by decide +kernel
theorem dL_match_17 : decode cL_match 17 = .ok (.astore 6, 2) := by decide +kernel
theorem dL_match_19 : decode cL_match 19 = .ok (.iconst 1, 1) := by decide +kernel
theorem dL_match_20 : decode cL_match 20 = .ok (.ireturn, 1) := by decide +kernel
theorem dL_match_21 : decode cL_match 21 = .ok (.iconst 0, 1) := by decide +kernel
theorem dL_match_22 : decode cL_match 22 = .ok (.ireturn, 1) := by decide +kernel
abbrev mL_match : MM := (RL, cL_match, 7, (some .int), yL_match, tableOf [(0, 14, 17, 18)])
theorem fs_L_match : MsYSW mL_match [(0, 14, 17, 18)] := ⟨List.mem_of_getElem? (i := 1343) (by decide +kernel), List.mem_of_getElem? (i := 138) (by decide +kernel), List.mem_of_getElem? (i := 1344) (by decide +kernel), by decide +kernel, by decide +kernel, by decide⟩
theorem hc_L_match {G : MG} : ∀ e v, hn_n e = some v → MsCatch mL_match G 9 e v := hn_nc ⟨[], ⟨0, 14, 17, 18⟩, [], 19, 1, rfl, (fun z hz => by cases hz), rfl, by decide, List.mem_of_getElem? (i := 982) (by decide +kernel), List.mem_of_getElem? (i := 992) (by decide +kernel), Or.inr ⟨6, dL_match_17, by decide, rfl⟩, dL_match_19, by decide +kernel, dL_match_20, rfl⟩
def f_L_match (σ : MsSt) (l1 : Int32) (l2 : Int32) (l3 : Int32) (l4 : Int32) : Option (Int32 × MsSt) :=
  ms_cx2 (f_X10_match σ 0 l1 l2 l3 l4) (fun v1 s2 =>
    (ms_asj s2 517 0 v1.toInt64).bind fun s3 =>
    some (0, s3))
    hn_n
set_option maxRecDepth 100000 in
theorem sp_L_match (G : MG) (hG : (g_l G).stackTraces = false) (d : Nat) (hd : 10 ≤ d) (σ : MsSt) (l1 : Int32) (l2 : Int32) (l3 : Int32) (l4 : Int32) : MsSpecW G mL_match [(0, 14, 17, 18)] d 4 24 [.ref 0, .int l1, .int l2, .int l3, .int l4, .ref 517] σ ms_wi (f_L_match σ l1 l2 l3 l4) := by
  refine ms_startW (by decide +kernel) rfl rfl (Nat.le_of_ble_eq_true rfl) ?_
  show TrO G mL_match d 4 24 0 0 ms_wi 0 [(0, .ref 0), (1, .int l1), (2, .int l2), (3, .int l3), (4, .int l4), (5, .ref 517)] [] σ (ms_cx2 (f_X10_match σ 0 l1 l2 l3 l4) (fun v1 s2 => (ms_asj s2 517 0 v1.toInt64).bind fun s3 => some (0, s3)) hn_n)
  refine tr_aload (i := 5) dL_match_0 rfl ?_
  refine tr_iconst (v := 0) dL_match_2 (by decide +kernel) ?_
  refine tr_aload_n (i := 0) dL_match_3 rfl ?_
  refine tr_iload_n (i := 1) dL_match_4 rfl ?_
  refine tr_iload_n (i := 2) dL_match_5 rfl ?_
  refine tr_iload_n (i := 3) dL_match_6 rfl ?_
  refine tr_iload (i := 4) dL_match_7 rfl ?_
  refine tr_cx2 (val := Value.int) (fun _ _ => rfl) (fun _ _ => rfl) (ms_cV (rest := [.int 0, .ref 517]) (al := [.int l1, .int l2, .int l3, .int l4]) 10 (sp_X10_match G hG (d - 1) (by omega) σ 0 l1 l2 l3 l4 kd_0) kd_0 (by decide +kernel) kl_L_80 fv_X10_match dL_match_9 (show _ = some 4 by decide +kernel) (by omega) (Nat.le_of_ble_eq_true rfl) (by decide) (by decide)) (by decide) (by decide) hc_L_match (fun v1 s2 => ?_)
  refine tr_i2l dL_match_12 ?_
  refine tr_asj kd_517 dL_match_13 (fun s3 => ?_)
  refine tr_goto (tgt := 21) dL_match_14 (by decide) ?_
  refine tr_iconst (v := 0) dL_match_21 (by decide +kernel) ?_
  exact tr_iret rfl rfl (by decide) (by decide) dL_match_22
theorem dL_saved_0 : decode cL_saved 0 = .ok (.aload_n 3, 1) := by decide +kernel
theorem dL_saved_1 : decode cL_saved 1 = .ok (.iconst 0, 1) := by decide +kernel
theorem dL_saved_2 : decode cL_saved 2 = .ok (.aload_n 0, 1) := by decide +kernel
theorem dL_saved_3 : decode cL_saved 3 = .ok (.iload_n 1, 1) := by decide +kernel
theorem dL_saved_4 : decode cL_saved 4 = .ok (.iload_n 2, 1) := by decide +kernel
theorem dL_saved_5 : decode cL_saved 5 = .ok (.invokevirtual 84, 3) := by decide +kernel
theorem dL_saved_8 : decode cL_saved 8 = .ok (.i2l, 1) := by decide +kernel
theorem dL_saved_9 : decode cL_saved 9 = .ok (.lastore, 1) := by decide +kernel
theorem dL_saved_10 : decode cL_saved 10 = .ok (.goto 7, 3) := by decide +kernel
theorem dL_saved_13 : decode cL_saved 13 = .ok (.astore 4, 2) := by decide +kernel
theorem dL_saved_15 : decode cL_saved 15 = .ok (.iconst 1, 1) := by decide +kernel
theorem dL_saved_16 : decode cL_saved 16 = .ok (.ireturn, 1) := by decide +kernel
theorem dL_saved_17 : decode cL_saved 17 = .ok (.iconst 0, 1) := by decide +kernel
theorem dL_saved_18 : decode cL_saved 18 = .ok (.ireturn, 1) := by decide +kernel
abbrev mL_saved : MM := (RL, cL_saved, 5, (some .int), yL_saved, tableOf [(0, 10, 13, 18)])
theorem fs_L_saved : MsYSW mL_saved [(0, 10, 13, 18)] := ⟨List.mem_of_getElem? (i := 1351) (by decide +kernel), List.mem_of_getElem? (i := 138) (by decide +kernel), List.mem_of_getElem? (i := 1352) (by decide +kernel), by decide +kernel, by decide +kernel, by decide⟩
theorem hc_L_saved {G : MG} : ∀ e v, hn_n e = some v → MsCatch mL_saved G 5 e v := hn_nc ⟨[], ⟨0, 10, 13, 18⟩, [], 15, 1, rfl, (fun z hz => by cases hz), rfl, by decide, List.mem_of_getElem? (i := 982) (by decide +kernel), List.mem_of_getElem? (i := 992) (by decide +kernel), Or.inr ⟨4, dL_saved_13, by decide, rfl⟩, dL_saved_15, by decide +kernel, dL_saved_16, rfl⟩
def f_L_saved (σ : MsSt) (l1 : Int32) (l2 : Int32) : Option (Int32 × MsSt) :=
  ms_cx2 (f_X10_saved σ 0 l1 l2) (fun v1 s2 =>
    (ms_asj s2 517 0 v1.toInt64).bind fun s3 =>
    some (0, s3))
    hn_n
set_option maxRecDepth 100000 in
theorem sp_L_saved (G : MG) (hG : (g_l G).stackTraces = false) (d : Nat) (hd : 9 ≤ d) (σ : MsSt) (l1 : Int32) (l2 : Int32) : MsSpecW G mL_saved [(0, 10, 13, 18)] d 3 18 [.ref 0, .int l1, .int l2, .ref 517] σ ms_wi (f_L_saved σ l1 l2) := by
  refine ms_startW (by decide +kernel) rfl rfl (Nat.le_of_ble_eq_true rfl) ?_
  show TrO G mL_saved d 3 18 0 0 ms_wi 0 [(0, .ref 0), (1, .int l1), (2, .int l2), (3, .ref 517)] [] σ (ms_cx2 (f_X10_saved σ 0 l1 l2) (fun v1 s2 => (ms_asj s2 517 0 v1.toInt64).bind fun s3 => some (0, s3)) hn_n)
  refine tr_aload_n (i := 3) dL_saved_0 rfl ?_
  refine tr_iconst (v := 0) dL_saved_1 (by decide +kernel) ?_
  refine tr_aload_n (i := 0) dL_saved_2 rfl ?_
  refine tr_iload_n (i := 1) dL_saved_3 rfl ?_
  refine tr_iload_n (i := 2) dL_saved_4 rfl ?_
  refine tr_cx2 (val := Value.int) (fun _ _ => rfl) (fun _ _ => rfl) (ms_cV (rest := [.int 0, .ref 517]) (al := [.int l1, .int l2]) 10 (sp_X10_saved G hG (d - 1) (by omega) σ 0 l1 l2 kd_0) kd_0 (by decide +kernel) kl_L_84 fv_X10_saved dL_saved_5 (show _ = some 2 by decide +kernel) (by omega) (Nat.le_of_ble_eq_true rfl) (by decide) (by decide)) (by decide) (by decide) hc_L_saved (fun v1 s2 => ?_)
  refine tr_i2l dL_saved_8 ?_
  refine tr_asj kd_517 dL_saved_9 (fun s3 => ?_)
  refine tr_goto (tgt := 17) dL_saved_10 (by decide) ?_
  refine tr_iconst (v := 0) dL_saved_17 (by decide +kernel) ?_
  exact tr_iret rfl rfl (by decide) (by decide) dL_saved_18
theorem dL_bestClass_0 : decode cL_bestClass 0 = .ok (.aload_n 3, 1) := by decide +kernel
theorem dL_bestClass_1 : decode cL_bestClass 1 = .ok (.iconst 0, 1) := by decide +kernel
theorem dL_bestClass_2 : decode cL_bestClass 2 = .ok (.aload_n 0, 1) := by decide +kernel
theorem dL_bestClass_3 : decode cL_bestClass 3 = .ok (.iload_n 1, 1) := by decide +kernel
theorem dL_bestClass_4 : decode cL_bestClass 4 = .ok (.iload_n 2, 1) := by decide +kernel
theorem dL_bestClass_5 : decode cL_bestClass 5 = .ok (.invokevirtual 87, 3) := by decide +kernel
theorem dL_bestClass_8 : decode cL_bestClass 8 = .ok (.i2l, 1) := by decide +kernel
theorem dL_bestClass_9 : decode cL_bestClass 9 = .ok (.lastore, 1) := by decide +kernel
theorem dL_bestClass_10 : decode cL_bestClass 10 = .ok (.goto 7, 3) := by decide +kernel
theorem dL_bestClass_13 : decode cL_bestClass 13 = .ok (.astore 4, 2) := by decide +kernel
theorem dL_bestClass_15 : decode cL_bestClass 15 = .ok (.iconst 1, 1) := by decide +kernel
theorem dL_bestClass_16 : decode cL_bestClass 16 = .ok (.ireturn, 1) := by decide +kernel
theorem dL_bestClass_17 : decode cL_bestClass 17 = .ok (.iconst 0, 1) := by decide +kernel
theorem dL_bestClass_18 : decode cL_bestClass 18 = .ok (.ireturn, 1) := by decide +kernel
abbrev mL_bestClass : MM := (RL, cL_bestClass, 5, (some .int), yL_bestClass, tableOf [(0, 10, 13, 18)])
theorem fs_L_bestClass : MsYSW mL_bestClass [(0, 10, 13, 18)] := ⟨List.mem_of_getElem? (i := 1359) (by decide +kernel), List.mem_of_getElem? (i := 138) (by decide +kernel), List.mem_of_getElem? (i := 1360) (by decide +kernel), by decide +kernel, by decide +kernel, by decide⟩
theorem hc_L_bestClass {G : MG} : ∀ e v, hn_n e = some v → MsCatch mL_bestClass G 5 e v := hn_nc ⟨[], ⟨0, 10, 13, 18⟩, [], 15, 1, rfl, (fun z hz => by cases hz), rfl, by decide, List.mem_of_getElem? (i := 982) (by decide +kernel), List.mem_of_getElem? (i := 992) (by decide +kernel), Or.inr ⟨4, dL_bestClass_13, by decide, rfl⟩, dL_bestClass_15, by decide +kernel, dL_bestClass_16, rfl⟩
def f_L_bestClass (σ : MsSt) (l1 : Int32) (l2 : Int32) : Option (Int32 × MsSt) :=
  ms_cx2 (f_X10_bestClass σ 0 l1 l2) (fun v1 s2 =>
    (ms_asj s2 517 0 v1.toInt64).bind fun s3 =>
    some (0, s3))
    hn_n
set_option maxRecDepth 100000 in
theorem sp_L_bestClass (G : MG) (hG : (g_l G).stackTraces = false) (d : Nat) (hd : 9 ≤ d) (σ : MsSt) (l1 : Int32) (l2 : Int32) : MsSpecW G mL_bestClass [(0, 10, 13, 18)] d 3 18 [.ref 0, .int l1, .int l2, .ref 517] σ ms_wi (f_L_bestClass σ l1 l2) := by
  refine ms_startW (by decide +kernel) rfl rfl (Nat.le_of_ble_eq_true rfl) ?_
  show TrO G mL_bestClass d 3 18 0 0 ms_wi 0 [(0, .ref 0), (1, .int l1), (2, .int l2), (3, .ref 517)] [] σ (ms_cx2 (f_X10_bestClass σ 0 l1 l2) (fun v1 s2 => (ms_asj s2 517 0 v1.toInt64).bind fun s3 => some (0, s3)) hn_n)
  refine tr_aload_n (i := 3) dL_bestClass_0 rfl ?_
  refine tr_iconst (v := 0) dL_bestClass_1 (by decide +kernel) ?_
  refine tr_aload_n (i := 0) dL_bestClass_2 rfl ?_
  refine tr_iload_n (i := 1) dL_bestClass_3 rfl ?_
  refine tr_iload_n (i := 2) dL_bestClass_4 rfl ?_
  refine tr_cx2 (val := Value.int) (fun _ _ => rfl) (fun _ _ => rfl) (ms_cV (rest := [.int 0, .ref 517]) (al := [.int l1, .int l2]) 10 (sp_X10_bestClass G hG (d - 1) (by omega) σ 0 l1 l2 kd_0) kd_0 (by decide +kernel) kl_L_87 fv_X10_bestClass dL_bestClass_5 (show _ = some 2 by decide +kernel) (by omega) (Nat.le_of_ble_eq_true rfl) (by decide) (by decide)) (by decide) (by decide) hc_L_bestClass (fun v1 s2 => ?_)
  refine tr_i2l dL_bestClass_8 ?_
  refine tr_asj kd_517 dL_bestClass_9 (fun s3 => ?_)
  refine tr_goto (tgt := 17) dL_bestClass_10 (by decide) ?_
  refine tr_iconst (v := 0) dL_bestClass_17 (by decide +kernel) ?_
  exact tr_iret rfl rfl (by decide) (by decide) dL_bestClass_18
theorem dL_meanMarks_0 : decode cL_meanMarks 0 = .ok (.aload_n 2, 1) := by decide +kernel
theorem dL_meanMarks_1 : decode cL_meanMarks 1 = .ok (.iconst 0, 1) := by decide +kernel
theorem dL_meanMarks_2 : decode cL_meanMarks 2 = .ok (.aload_n 0, 1) := by decide +kernel
theorem dL_meanMarks_3 : decode cL_meanMarks 3 = .ok (.iload_n 1, 1) := by decide +kernel
theorem dL_meanMarks_4 : decode cL_meanMarks 4 = .ok (.invokevirtual 90, 3) := by decide +kernel
theorem dL_meanMarks_7 : decode cL_meanMarks 7 = .ok (.dastore, 1) := by decide +kernel
theorem dL_meanMarks_8 : decode cL_meanMarks 8 = .ok (.goto 6, 3) := by decide +kernel
theorem dL_meanMarks_11 : decode cL_meanMarks 11 = .ok (.astore_n 3, 1) := by decide +kernel
theorem dL_meanMarks_12 : decode cL_meanMarks 12 = .ok (.iconst 1, 1) := by decide +kernel
theorem dL_meanMarks_13 : decode cL_meanMarks 13 = .ok (.ireturn, 1) := by decide +kernel
theorem dL_meanMarks_14 : decode cL_meanMarks 14 = .ok (.iconst 0, 1) := by decide +kernel
theorem dL_meanMarks_15 : decode cL_meanMarks 15 = .ok (.ireturn, 1) := by decide +kernel
abbrev mL_meanMarks : MM := (RL, cL_meanMarks, 4, (some .int), yL_meanMarks, tableOf [(0, 8, 11, 18)])
theorem fs_L_meanMarks : MsYSW mL_meanMarks [(0, 8, 11, 18)] := ⟨List.mem_of_getElem? (i := 1371) (by decide +kernel), List.mem_of_getElem? (i := 138) (by decide +kernel), List.mem_of_getElem? (i := 1372) (by decide +kernel), by decide +kernel, by decide +kernel, by decide⟩
theorem hc_L_meanMarks {G : MG} : ∀ e v, hn_n e = some v → MsCatch mL_meanMarks G 4 e v := hn_nc ⟨[], ⟨0, 8, 11, 18⟩, [], 12, 1, rfl, (fun z hz => by cases hz), rfl, by decide, List.mem_of_getElem? (i := 982) (by decide +kernel), List.mem_of_getElem? (i := 992) (by decide +kernel), Or.inl ⟨3, dL_meanMarks_11, by decide, rfl⟩, dL_meanMarks_12, by decide +kernel, dL_meanMarks_13, rfl⟩
def f_L_meanMarks (σ : MsSt) (l1 : Int32) : Option (Int32 × MsSt) :=
  ms_cx2 (f_X10_meanMarks σ 0 l1) (fun v1 s2 =>
    (ms_asd s2 518 0 v1).bind fun s3 =>
    some (0, s3))
    hn_n
set_option maxRecDepth 100000 in
theorem sp_L_meanMarks (G : MG) (hG : (g_l G).stackTraces = false) (d : Nat) (hd : 9 ≤ d) (σ : MsSt) (l1 : Int32) : MsSpecW G mL_meanMarks [(0, 8, 11, 18)] d 1 6 [.ref 0, .int l1, .ref 518] σ ms_wi (f_L_meanMarks σ l1) := by
  refine ms_startW (by decide +kernel) rfl rfl (Nat.le_of_ble_eq_true rfl) ?_
  show TrO G mL_meanMarks d 1 6 0 0 ms_wi 0 [(0, .ref 0), (1, .int l1), (2, .ref 518)] [] σ (ms_cx2 (f_X10_meanMarks σ 0 l1) (fun v1 s2 => (ms_asd s2 518 0 v1).bind fun s3 => some (0, s3)) hn_n)
  refine tr_aload_n (i := 2) dL_meanMarks_0 rfl ?_
  refine tr_iconst (v := 0) dL_meanMarks_1 (by decide +kernel) ?_
  refine tr_aload_n (i := 0) dL_meanMarks_2 rfl ?_
  refine tr_iload_n (i := 1) dL_meanMarks_3 rfl ?_
  refine tr_cx2 (val := Value.double) (fun _ _ => rfl) (fun _ _ => rfl) (ms_cV (rest := [.int 0, .ref 518]) (al := [.int l1]) 10 (sp_X10_meanMarks G hG (d - 1) (by omega) σ 0 l1 kd_0) kd_0 (by decide +kernel) kl_L_90 fv_X10_meanMarks dL_meanMarks_4 (show _ = some 1 by decide +kernel) (by omega) (Nat.le_of_ble_eq_true rfl) (by decide) (by decide)) (by decide) (by decide) hc_L_meanMarks (fun v1 s2 => ?_)
  refine tr_asd kd_518 dL_meanMarks_7 (fun s3 => ?_)
  refine tr_goto (tgt := 14) dL_meanMarks_8 (by decide) ?_
  refine tr_iconst (v := 0) dL_meanMarks_14 (by decide +kernel) ?_
  exact tr_iret rfl rfl (by decide) (by decide) dL_meanMarks_15
theorem dL_shortness_0 : decode cL_shortness 0 = .ok (.aload_n 2, 1) := by decide +kernel
theorem dL_shortness_1 : decode cL_shortness 1 = .ok (.iconst 0, 1) := by decide +kernel
theorem dL_shortness_2 : decode cL_shortness 2 = .ok (.aload_n 0, 1) := by decide +kernel
theorem dL_shortness_3 : decode cL_shortness 3 = .ok (.iload_n 1, 1) := by decide +kernel
theorem dL_shortness_4 : decode cL_shortness 4 = .ok (.invokevirtual 94, 3) := by decide +kernel
theorem dL_shortness_7 : decode cL_shortness 7 = .ok (.f2d, 1) := by decide +kernel
theorem dL_shortness_8 : decode cL_shortness 8 = .ok (.dastore, 1) := by decide +kernel
theorem dL_shortness_9 : decode cL_shortness 9 = .ok (.goto 6, 3) := by decide +kernel
theorem dL_shortness_12 : decode cL_shortness 12 = .ok (.astore_n 3, 1) := by decide +kernel
theorem dL_shortness_13 : decode cL_shortness 13 = .ok (.iconst 1, 1) := by decide +kernel
theorem dL_shortness_14 : decode cL_shortness 14 = .ok (.ireturn, 1) := by decide +kernel
theorem dL_shortness_15 : decode cL_shortness 15 = .ok (.iconst 0, 1) := by decide +kernel
theorem dL_shortness_16 : decode cL_shortness 16 = .ok (.ireturn, 1) := by decide +kernel
abbrev mL_shortness : MM := (RL, cL_shortness, 4, (some .int), yL_shortness, tableOf [(0, 9, 12, 18)])
theorem fs_L_shortness : MsYSW mL_shortness [(0, 9, 12, 18)] := ⟨List.mem_of_getElem? (i := 1378) (by decide +kernel), List.mem_of_getElem? (i := 138) (by decide +kernel), List.mem_of_getElem? (i := 1379) (by decide +kernel), by decide +kernel, by decide +kernel, by decide⟩
theorem hc_L_shortness {G : MG} : ∀ e v, hn_n e = some v → MsCatch mL_shortness G 4 e v := hn_nc ⟨[], ⟨0, 9, 12, 18⟩, [], 13, 1, rfl, (fun z hz => by cases hz), rfl, by decide, List.mem_of_getElem? (i := 982) (by decide +kernel), List.mem_of_getElem? (i := 992) (by decide +kernel), Or.inl ⟨3, dL_shortness_12, by decide, rfl⟩, dL_shortness_13, by decide +kernel, dL_shortness_14, rfl⟩
def f_L_shortness (σ : MsSt) (l1 : Int32) : Option (Int32 × MsSt) :=
  ms_cx2 (f_X10_shortness σ 0 l1) (fun v1 s2 =>
    (ms_f2d v1).bind fun v3 =>
    (ms_asd s2 518 0 v3).bind fun s4 =>
    some (0, s4))
    hn_n
set_option maxRecDepth 100000 in
theorem sp_L_shortness (G : MG) (hG : (g_l G).stackTraces = false) (d : Nat) (hd : 9 ≤ d) (σ : MsSt) (l1 : Int32) : MsSpecW G mL_shortness [(0, 9, 12, 18)] d 1 6 [.ref 0, .int l1, .ref 518] σ ms_wi (f_L_shortness σ l1) := by
  refine ms_startW (by decide +kernel) rfl rfl (Nat.le_of_ble_eq_true rfl) ?_
  show TrO G mL_shortness d 1 6 0 0 ms_wi 0 [(0, .ref 0), (1, .int l1), (2, .ref 518)] [] σ (ms_cx2 (f_X10_shortness σ 0 l1) (fun v1 s2 => (ms_f2d v1).bind fun v3 => (ms_asd s2 518 0 v3).bind fun s4 => some (0, s4)) hn_n)
  refine tr_aload_n (i := 2) dL_shortness_0 rfl ?_
  refine tr_iconst (v := 0) dL_shortness_1 (by decide +kernel) ?_
  refine tr_aload_n (i := 0) dL_shortness_2 rfl ?_
  refine tr_iload_n (i := 1) dL_shortness_3 rfl ?_
  refine tr_cx2 (val := Value.float) (fun _ _ => rfl) (fun _ _ => rfl) (ms_cV (rest := [.int 0, .ref 518]) (al := [.int l1]) 10 (sp_X10_shortness G hG (d - 1) (by omega) σ 0 l1 kd_0) kd_0 (by decide +kernel) kl_L_94 fv_X10_shortness dL_shortness_4 (show _ = some 1 by decide +kernel) (by omega) (Nat.le_of_ble_eq_true rfl) (by decide) (by decide)) (by decide) (by decide) hc_L_shortness (fun v1 s2 => ?_)
  refine tr_f2d (o := none) dL_shortness_7 (fun v3 => ?_)
  refine tr_asd kd_518 dL_shortness_8 (fun s4 => ?_)
  refine tr_goto (tgt := 15) dL_shortness_9 (by decide) ?_
  refine tr_iconst (v := 0) dL_shortness_15 (by decide +kernel) ?_
  exact tr_iret rfl rfl (by decide) (by decide) dL_shortness_16
theorem dL_hand_0 : decode cL_hand 0 = .ok (.aload_n 2, 1) := by decide +kernel
theorem dL_hand_1 : decode cL_hand 1 = .ok (.iconst 0, 1) := by decide +kernel
theorem dL_hand_2 : decode cL_hand 2 = .ok (.aload_n 0, 1) := by decide +kernel
theorem dL_hand_3 : decode cL_hand 3 = .ok (.iload_n 1, 1) := by decide +kernel
theorem dL_hand_4 : decode cL_hand 4 = .ok (.invokevirtual 98, 3) := by decide +kernel
theorem dL_hand_7 : decode cL_hand 7 = .ok (.i2l, 1) := by decide +kernel
theorem dL_hand_8 : decode cL_hand 8 = .ok (.lastore, 1) := by decide +kernel
theorem dL_hand_9 : decode cL_hand 9 = .ok (.goto 6, 3) := by decide +kernel
theorem dL_hand_12 : decode cL_hand 12 = .ok (.astore_n 3, 1) := by decide +kernel
theorem dL_hand_13 : decode cL_hand 13 = .ok (.iconst 1, 1) := by decide +kernel
theorem dL_hand_14 : decode cL_hand 14 = .ok (.ireturn, 1) := by decide +kernel
theorem dL_hand_15 : decode cL_hand 15 = .ok (.iconst 0, 1) := by decide +kernel
theorem dL_hand_16 : decode cL_hand 16 = .ok (.ireturn, 1) := by decide +kernel
abbrev mL_hand : MM := (RL, cL_hand, 4, (some .int), yL_hand, tableOf [(0, 9, 12, 18)])
theorem fs_L_hand : MsYSW mL_hand [(0, 9, 12, 18)] := ⟨List.mem_of_getElem? (i := 1385) (by decide +kernel), List.mem_of_getElem? (i := 138) (by decide +kernel), List.mem_of_getElem? (i := 1386) (by decide +kernel), by decide +kernel, by decide +kernel, by decide⟩
theorem hc_L_hand {G : MG} : ∀ e v, hn_n e = some v → MsCatch mL_hand G 4 e v := hn_nc ⟨[], ⟨0, 9, 12, 18⟩, [], 13, 1, rfl, (fun z hz => by cases hz), rfl, by decide, List.mem_of_getElem? (i := 982) (by decide +kernel), List.mem_of_getElem? (i := 992) (by decide +kernel), Or.inl ⟨3, dL_hand_12, by decide, rfl⟩, dL_hand_13, by decide +kernel, dL_hand_14, rfl⟩
def f_L_hand (σ : MsSt) (l1 : Int32) : Option (Int32 × MsSt) :=
  ms_cx2 (f_X10_hand σ 0 l1) (fun v1 s2 =>
    (ms_asj s2 517 0 v1.toInt64).bind fun s3 =>
    some (0, s3))
    hn_n
set_option maxRecDepth 100000 in
theorem sp_L_hand (G : MG) (hG : (g_l G).stackTraces = false) (d : Nat) (hd : 9 ≤ d) (σ : MsSt) (l1 : Int32) : MsSpecW G mL_hand [(0, 9, 12, 18)] d 1 6 [.ref 0, .int l1, .ref 517] σ ms_wi (f_L_hand σ l1) := by
  refine ms_startW (by decide +kernel) rfl rfl (Nat.le_of_ble_eq_true rfl) ?_
  show TrO G mL_hand d 1 6 0 0 ms_wi 0 [(0, .ref 0), (1, .int l1), (2, .ref 517)] [] σ (ms_cx2 (f_X10_hand σ 0 l1) (fun v1 s2 => (ms_asj s2 517 0 v1.toInt64).bind fun s3 => some (0, s3)) hn_n)
  refine tr_aload_n (i := 2) dL_hand_0 rfl ?_
  refine tr_iconst (v := 0) dL_hand_1 (by decide +kernel) ?_
  refine tr_aload_n (i := 0) dL_hand_2 rfl ?_
  refine tr_iload_n (i := 1) dL_hand_3 rfl ?_
  refine tr_cx2 (val := Value.int) (fun _ _ => rfl) (fun _ _ => rfl) (ms_cV (rest := [.int 0, .ref 517]) (al := [.int l1]) 10 (sp_X10_hand G hG (d - 1) (by omega) σ 0 l1 kd_0) kd_0 (by decide +kernel) kl_L_98 fv_X10_hand dL_hand_4 (show _ = some 1 by decide +kernel) (by omega) (Nat.le_of_ble_eq_true rfl) (by decide) (by decide)) (by decide) (by decide) hc_L_hand (fun v1 s2 => ?_)
  refine tr_i2l dL_hand_7 ?_
  refine tr_asj kd_517 dL_hand_8 (fun s3 => ?_)
  refine tr_goto (tgt := 15) dL_hand_9 (by decide) ?_
  refine tr_iconst (v := 0) dL_hand_15 (by decide +kernel) ?_
  exact tr_iret rfl rfl (by decide) (by decide) dL_hand_16
theorem dL_type_0 : decode cL_type 0 = .ok (.aload 4, 2) := by decide +kernel
theorem dL_type_2 : decode cL_type 2 = .ok (.iconst 0, 1) := by decide +kernel
theorem dL_type_3 : decode cL_type 3 = .ok (.aload_n 0, 1) := by decide +kernel
theorem dL_type_4 : decode cL_type 4 = .ok (.iload_n 1, 1) := by decide +kernel
theorem dL_type_5 : decode cL_type 5 = .ok (.iload_n 2, 1) := by decide +kernel
theorem dL_type_6 : decode cL_type 6 = .ok (.iload_n 3, 1) := by decide +kernel
theorem dL_type_7 : decode cL_type 7 = .ok (.invokevirtual 101, 3) := by decide +kernel
theorem dL_type_10 : decode cL_type 10 = .ok (.i2l, 1) := by decide +kernel
theorem dL_type_11 : decode cL_type 11 = .ok (.lastore, 1) := by decide +kernel
theorem dL_type_12 : decode cL_type 12 = .ok (.goto 11, 3) := by decide +kernel
theorem dL_type_15 : decode cL_type 15 = .ok (.astore 5, 2) := by decide +kernel
theorem dL_type_17 : decode cL_type 17 = .ok (.iconst 1, 1) := by decide +kernel
theorem dL_type_18 : decode cL_type 18 = .ok (.ireturn, 1) := by decide +kernel
theorem dL_type_19 : decode cL_type 19 = .ok (.astore 5, 2) := by decide +kernel
theorem dL_type_21 : decode cL_type 21 = .ok (.iconst 2, 1) := by decide +kernel
theorem dL_type_22 : decode cL_type 22 = .ok (.ireturn, 1) := by decide +kernel
theorem dL_type_23 : decode cL_type 23 = .ok (.iconst 0, 1) := by decide +kernel
theorem dL_type_24 : decode cL_type 24 = .ok (.ireturn, 1) := by decide +kernel
abbrev mL_type : MM := (RL, cL_type, 6, (some .int), yL_type, tableOf [(0, 12, 15, 18), (0, 12, 19, 13)])
theorem fs_L_type : MsYSW mL_type [(0, 12, 15, 18), (0, 12, 19, 13)] := ⟨List.mem_of_getElem? (i := 1398) (by decide +kernel), List.mem_of_getElem? (i := 138) (by decide +kernel), List.mem_of_getElem? (i := 1399) (by decide +kernel), by decide +kernel, by decide +kernel, by decide⟩
theorem hc_L_type {G : MG} : ∀ e v, hn_b e = some v → MsCatch mL_type G 7 e v := hn_bc ⟨[], ⟨0, 12, 15, 18⟩, [⟨0, 12, 19, 13⟩], 17, 1, rfl, (fun z hz => by cases hz), rfl, by decide, List.mem_of_getElem? (i := 982) (by decide +kernel), List.mem_of_getElem? (i := 992) (by decide +kernel), Or.inr ⟨5, dL_type_15, by decide, rfl⟩, dL_type_17, by decide +kernel, dL_type_18, rfl⟩ ⟨[⟨0, 12, 15, 18⟩], ⟨0, 12, 19, 13⟩, [], 21, 2, rfl, (fun z hz => by
    rw [List.mem_singleton.mp hz]
    exact Or.inr ⟨by decide, "java/util/NoSuchElementException", List.mem_of_getElem? (i := 982) (by decide +kernel), fun s h => h.2.2.2.2.2.2.2.2.2.2⟩), rfl, by decide, List.mem_of_getElem? (i := 678) (by decide +kernel), List.mem_of_getElem? (i := 689) (by decide +kernel), Or.inr ⟨5, dL_type_19, by decide, rfl⟩, dL_type_21, by decide +kernel, dL_type_22, rfl⟩
def f_L_type (σ : MsSt) (l1 : Int32) (l2 : Int32) (l3 : Int32) : Option (Int32 × MsSt) :=
  ms_cx2 (f_X10_type σ 0 l1 l2 l3) (fun v1 s2 =>
    (ms_asj s2 517 0 v1.toInt64).bind fun s3 =>
    some (0, s3))
    hn_b
set_option maxRecDepth 100000 in
theorem sp_L_type (G : MG) (hG : (g_l G).stackTraces = false) (d : Nat) (hd : 9 ≤ d) (σ : MsSt) (l1 : Int32) (l2 : Int32) (l3 : Int32) : MsSpecW G mL_type [(0, 12, 15, 18), (0, 12, 19, 13)] d 3 18 [.ref 0, .int l1, .int l2, .int l3, .ref 517] σ ms_wi (f_L_type σ l1 l2 l3) := by
  refine ms_startW (by decide +kernel) rfl rfl (Nat.le_of_ble_eq_true rfl) ?_
  show TrO G mL_type d 3 18 0 0 ms_wi 0 [(0, .ref 0), (1, .int l1), (2, .int l2), (3, .int l3), (4, .ref 517)] [] σ (ms_cx2 (f_X10_type σ 0 l1 l2 l3) (fun v1 s2 => (ms_asj s2 517 0 v1.toInt64).bind fun s3 => some (0, s3)) hn_b)
  refine tr_aload (i := 4) dL_type_0 rfl ?_
  refine tr_iconst (v := 0) dL_type_2 (by decide +kernel) ?_
  refine tr_aload_n (i := 0) dL_type_3 rfl ?_
  refine tr_iload_n (i := 1) dL_type_4 rfl ?_
  refine tr_iload_n (i := 2) dL_type_5 rfl ?_
  refine tr_iload_n (i := 3) dL_type_6 rfl ?_
  refine tr_cx2 (val := Value.int) (fun _ _ => rfl) (fun _ _ => rfl) (ms_cV (rest := [.int 0, .ref 517]) (al := [.int l1, .int l2, .int l3]) 10 (sp_X10_type G hG (d - 1) (by omega) σ 0 l1 l2 l3 kd_0) kd_0 (by decide +kernel) kl_L_101 fv_X10_type dL_type_7 (show _ = some 3 by decide +kernel) (by omega) (Nat.le_of_ble_eq_true rfl) (by decide) (by decide)) (by decide) (by decide) hc_L_type (fun v1 s2 => ?_)
  refine tr_i2l dL_type_10 ?_
  refine tr_asj kd_517 dL_type_11 (fun s3 => ?_)
  refine tr_goto (tgt := 23) dL_type_12 (by decide) ?_
  refine tr_iconst (v := 0) dL_type_23 (by decide +kernel) ?_
  exact tr_iret rfl rfl (by decide) (by decide) dL_type_24
theorem dL_erase_0 : decode cL_erase 0 = .ok (.aload 4, 2) := by decide +kernel
theorem dL_erase_2 : decode cL_erase 2 = .ok (.iconst 0, 1) := by decide +kernel
theorem dL_erase_3 : decode cL_erase 3 = .ok (.aload_n 0, 1) := by decide +kernel
theorem dL_erase_4 : decode cL_erase 4 = .ok (.iload_n 1, 1) := by decide +kernel
theorem dL_erase_5 : decode cL_erase 5 = .ok (.iload_n 2, 1) := by decide +kernel
theorem dL_erase_6 : decode cL_erase 6 = .ok (.iload_n 3, 1) := by decide +kernel
theorem dL_erase_7 : decode cL_erase 7 = .ok (.invokevirtual 104, 3) := by decide +kernel
theorem dL_erase_10 : decode cL_erase 10 = .ok (.i2l, 1) := by decide +kernel
theorem dL_erase_11 : decode cL_erase 11 = .ok (.lastore, 1) := by decide +kernel
theorem dL_erase_12 : decode cL_erase 12 = .ok (.goto 11, 3) := by decide +kernel
theorem dL_erase_15 : decode cL_erase 15 = .ok (.astore 5, 2) := by decide +kernel
theorem dL_erase_17 : decode cL_erase 17 = .ok (.iconst 1, 1) := by decide +kernel
theorem dL_erase_18 : decode cL_erase 18 = .ok (.ireturn, 1) := by decide +kernel
theorem dL_erase_19 : decode cL_erase 19 = .ok (.astore 5, 2) := by decide +kernel
theorem dL_erase_21 : decode cL_erase 21 = .ok (.iconst 2, 1) := by decide +kernel
theorem dL_erase_22 : decode cL_erase 22 = .ok (.ireturn, 1) := by decide +kernel
theorem dL_erase_23 : decode cL_erase 23 = .ok (.iconst 0, 1) := by decide +kernel
theorem dL_erase_24 : decode cL_erase 24 = .ok (.ireturn, 1) := by decide +kernel
abbrev mL_erase : MM := (RL, cL_erase, 6, (some .int), yL_erase, tableOf [(0, 12, 15, 18), (0, 12, 19, 13)])
theorem fs_L_erase : MsYSW mL_erase [(0, 12, 15, 18), (0, 12, 19, 13)] := ⟨List.mem_of_getElem? (i := 1414) (by decide +kernel), List.mem_of_getElem? (i := 138) (by decide +kernel), List.mem_of_getElem? (i := 1415) (by decide +kernel), by decide +kernel, by decide +kernel, by decide⟩
theorem hc_L_erase {G : MG} : ∀ e v, hn_b e = some v → MsCatch mL_erase G 7 e v := hn_bc ⟨[], ⟨0, 12, 15, 18⟩, [⟨0, 12, 19, 13⟩], 17, 1, rfl, (fun z hz => by cases hz), rfl, by decide, List.mem_of_getElem? (i := 982) (by decide +kernel), List.mem_of_getElem? (i := 992) (by decide +kernel), Or.inr ⟨5, dL_erase_15, by decide, rfl⟩, dL_erase_17, by decide +kernel, dL_erase_18, rfl⟩ ⟨[⟨0, 12, 15, 18⟩], ⟨0, 12, 19, 13⟩, [], 21, 2, rfl, (fun z hz => by
    rw [List.mem_singleton.mp hz]
    exact Or.inr ⟨by decide, "java/util/NoSuchElementException", List.mem_of_getElem? (i := 982) (by decide +kernel), fun s h => h.2.2.2.2.2.2.2.2.2.2⟩), rfl, by decide, List.mem_of_getElem? (i := 678) (by decide +kernel), List.mem_of_getElem? (i := 689) (by decide +kernel), Or.inr ⟨5, dL_erase_19, by decide, rfl⟩, dL_erase_21, by decide +kernel, dL_erase_22, rfl⟩
def f_L_erase (σ : MsSt) (l1 : Int32) (l2 : Int32) (l3 : Int32) : Option (Int32 × MsSt) :=
  ms_cx2 (f_X10_erase σ 0 l1 l2 l3) (fun v1 s2 =>
    (ms_asj s2 517 0 v1.toInt64).bind fun s3 =>
    some (0, s3))
    hn_b
set_option maxRecDepth 100000 in
theorem sp_L_erase (G : MG) (hG : (g_l G).stackTraces = false) (d : Nat) (hd : 9 ≤ d) (σ : MsSt) (l1 : Int32) (l2 : Int32) (l3 : Int32) : MsSpecW G mL_erase [(0, 12, 15, 18), (0, 12, 19, 13)] d 4 24 [.ref 0, .int l1, .int l2, .int l3, .ref 517] σ ms_wi (f_L_erase σ l1 l2 l3) := by
  refine ms_startW (by decide +kernel) rfl rfl (Nat.le_of_ble_eq_true rfl) ?_
  show TrO G mL_erase d 4 24 0 0 ms_wi 0 [(0, .ref 0), (1, .int l1), (2, .int l2), (3, .int l3), (4, .ref 517)] [] σ (ms_cx2 (f_X10_erase σ 0 l1 l2 l3) (fun v1 s2 => (ms_asj s2 517 0 v1.toInt64).bind fun s3 => some (0, s3)) hn_b)
  refine tr_aload (i := 4) dL_erase_0 rfl ?_
  refine tr_iconst (v := 0) dL_erase_2 (by decide +kernel) ?_
  refine tr_aload_n (i := 0) dL_erase_3 rfl ?_
  refine tr_iload_n (i := 1) dL_erase_4 rfl ?_
  refine tr_iload_n (i := 2) dL_erase_5 rfl ?_
  refine tr_iload_n (i := 3) dL_erase_6 rfl ?_
  refine tr_cx2 (val := Value.int) (fun _ _ => rfl) (fun _ _ => rfl) (ms_cV (rest := [.int 0, .ref 517]) (al := [.int l1, .int l2, .int l3]) 10 (sp_X10_erase G hG (d - 1) (by omega) σ 0 l1 l2 l3 kd_0) kd_0 (by decide +kernel) kl_L_104 fv_X10_erase dL_erase_7 (show _ = some 3 by decide +kernel) (by omega) (Nat.le_of_ble_eq_true rfl) (by decide) (by decide)) (by decide) (by decide) hc_L_erase (fun v1 s2 => ?_)
  refine tr_i2l dL_erase_10 ?_
  refine tr_asj kd_517 dL_erase_11 (fun s3 => ?_)
  refine tr_goto (tgt := 23) dL_erase_12 (by decide) ?_
  refine tr_iconst (v := 0) dL_erase_23 (by decide +kernel) ?_
  exact tr_iret rfl rfl (by decide) (by decide) dL_erase_24
theorem dL_stack_0 : decode cL_stack 0 = .ok (.aload 4, 2) := by decide +kernel
theorem dL_stack_2 : decode cL_stack 2 = .ok (.iconst 0, 1) := by decide +kernel
theorem dL_stack_3 : decode cL_stack 3 = .ok (.aload_n 0, 1) := by decide +kernel
theorem dL_stack_4 : decode cL_stack 4 = .ok (.iload_n 1, 1) := by decide +kernel
theorem dL_stack_5 : decode cL_stack 5 = .ok (.iload_n 2, 1) := by decide +kernel
theorem dL_stack_6 : decode cL_stack 6 = .ok (.iload_n 3, 1) := by decide +kernel
theorem dL_stack_7 : decode cL_stack 7 = .ok (.invokevirtual 107, 3) := by decide +kernel
theorem dL_stack_10 : decode cL_stack 10 = .ok (.i2l, 1) := by decide +kernel
theorem dL_stack_11 : decode cL_stack 11 = .ok (.lastore, 1) := by decide +kernel
theorem dL_stack_12 : decode cL_stack 12 = .ok (.goto 11, 3) := by decide +kernel
theorem dL_stack_15 : decode cL_stack 15 = .ok (.astore 5, 2) := by decide +kernel
theorem dL_stack_17 : decode cL_stack 17 = .ok (.iconst 1, 1) := by decide +kernel
theorem dL_stack_18 : decode cL_stack 18 = .ok (.ireturn, 1) := by decide +kernel
theorem dL_stack_19 : decode cL_stack 19 = .ok (.astore 5, 2) := by decide +kernel
theorem dL_stack_21 : decode cL_stack 21 = .ok (.iconst 2, 1) := by decide +kernel
theorem dL_stack_22 : decode cL_stack 22 = .ok (.ireturn, 1) := by decide +kernel
theorem dL_stack_23 : decode cL_stack 23 = .ok (.iconst 0, 1) := by decide +kernel
theorem dL_stack_24 : decode cL_stack 24 = .ok (.ireturn, 1) := by decide +kernel
abbrev mL_stack : MM := (RL, cL_stack, 6, (some .int), yL_stack, tableOf [(0, 12, 15, 18), (0, 12, 19, 13)])
theorem fs_L_stack : MsYSW mL_stack [(0, 12, 15, 18), (0, 12, 19, 13)] := ⟨List.mem_of_getElem? (i := 1425) (by decide +kernel), List.mem_of_getElem? (i := 138) (by decide +kernel), List.mem_of_getElem? (i := 1426) (by decide +kernel), by decide +kernel, by decide +kernel, by decide⟩
theorem hc_L_stack {G : MG} : ∀ e v, hn_b e = some v → MsCatch mL_stack G 7 e v := hn_bc ⟨[], ⟨0, 12, 15, 18⟩, [⟨0, 12, 19, 13⟩], 17, 1, rfl, (fun z hz => by cases hz), rfl, by decide, List.mem_of_getElem? (i := 982) (by decide +kernel), List.mem_of_getElem? (i := 992) (by decide +kernel), Or.inr ⟨5, dL_stack_15, by decide, rfl⟩, dL_stack_17, by decide +kernel, dL_stack_18, rfl⟩ ⟨[⟨0, 12, 15, 18⟩], ⟨0, 12, 19, 13⟩, [], 21, 2, rfl, (fun z hz => by
    rw [List.mem_singleton.mp hz]
    exact Or.inr ⟨by decide, "java/util/NoSuchElementException", List.mem_of_getElem? (i := 982) (by decide +kernel), fun s h => h.2.2.2.2.2.2.2.2.2.2⟩), rfl, by decide, List.mem_of_getElem? (i := 678) (by decide +kernel), List.mem_of_getElem? (i := 689) (by decide +kernel), Or.inr ⟨5, dL_stack_19, by decide, rfl⟩, dL_stack_21, by decide +kernel, dL_stack_22, rfl⟩
def f_L_stack (σ : MsSt) (l1 : Int32) (l2 : Int32) (l3 : Int32) : Option (Int32 × MsSt) :=
  ms_cx2 (f_X10_stack σ 0 l1 l2 l3) (fun v1 s2 =>
    (ms_asj s2 517 0 v1.toInt64).bind fun s3 =>
    some (0, s3))
    hn_b
set_option maxRecDepth 100000 in
theorem sp_L_stack (G : MG) (hG : (g_l G).stackTraces = false) (d : Nat) (hd : 10 ≤ d) (σ : MsSt) (l1 : Int32) (l2 : Int32) (l3 : Int32) : MsSpecW G mL_stack [(0, 12, 15, 18), (0, 12, 19, 13)] d 4 24 [.ref 0, .int l1, .int l2, .int l3, .ref 517] σ ms_wi (f_L_stack σ l1 l2 l3) := by
  refine ms_startW (by decide +kernel) rfl rfl (Nat.le_of_ble_eq_true rfl) ?_
  show TrO G mL_stack d 4 24 0 0 ms_wi 0 [(0, .ref 0), (1, .int l1), (2, .int l2), (3, .int l3), (4, .ref 517)] [] σ (ms_cx2 (f_X10_stack σ 0 l1 l2 l3) (fun v1 s2 => (ms_asj s2 517 0 v1.toInt64).bind fun s3 => some (0, s3)) hn_b)
  refine tr_aload (i := 4) dL_stack_0 rfl ?_
  refine tr_iconst (v := 0) dL_stack_2 (by decide +kernel) ?_
  refine tr_aload_n (i := 0) dL_stack_3 rfl ?_
  refine tr_iload_n (i := 1) dL_stack_4 rfl ?_
  refine tr_iload_n (i := 2) dL_stack_5 rfl ?_
  refine tr_iload_n (i := 3) dL_stack_6 rfl ?_
  refine tr_cx2 (val := Value.int) (fun _ _ => rfl) (fun _ _ => rfl) (ms_cV (rest := [.int 0, .ref 517]) (al := [.int l1, .int l2, .int l3]) 10 (sp_X10_stack G hG (d - 1) (by omega) σ 0 l1 l2 l3 kd_0) kd_0 (by decide +kernel) kl_L_107 fv_X10_stack dL_stack_7 (show _ = some 3 by decide +kernel) (by omega) (Nat.le_of_ble_eq_true rfl) (by decide) (by decide)) (by decide) (by decide) hc_L_stack (fun v1 s2 => ?_)
  refine tr_i2l dL_stack_10 ?_
  refine tr_asj kd_517 dL_stack_11 (fun s3 => ?_)
  refine tr_goto (tgt := 23) dL_stack_12 (by decide) ?_
  refine tr_iconst (v := 0) dL_stack_23 (by decide +kernel) ?_
  exact tr_iret rfl rfl (by decide) (by decide) dL_stack_24
theorem dL_strip_0 : decode cL_strip 0 = .ok (.aload 4, 2) := by decide +kernel
theorem dL_strip_2 : decode cL_strip 2 = .ok (.iconst 0, 1) := by decide +kernel
theorem dL_strip_3 : decode cL_strip 3 = .ok (.aload_n 0, 1) := by decide +kernel
theorem dL_strip_4 : decode cL_strip 4 = .ok (.iload_n 1, 1) := by decide +kernel
theorem dL_strip_5 : decode cL_strip 5 = .ok (.iload_n 2, 1) := by decide +kernel
theorem dL_strip_6 : decode cL_strip 6 = .ok (.iload_n 3, 1) := by decide +kernel
theorem dL_strip_7 : decode cL_strip 7 = .ok (.invokevirtual 110, 3) := by decide +kernel
theorem dL_strip_10 : decode cL_strip 10 = .ok (.i2l, 1) := by decide +kernel
theorem dL_strip_11 : decode cL_strip 11 = .ok (.lastore, 1) := by decide +kernel
theorem dL_strip_12 : decode cL_strip 12 = .ok (.goto 11, 3) := by decide +kernel
theorem dL_strip_15 : decode cL_strip 15 = .ok (.astore 5, 2) := by decide +kernel
theorem dL_strip_17 : decode cL_strip 17 = .ok (.iconst 1, 1) := by decide +kernel
theorem dL_strip_18 : decode cL_strip 18 = .ok (.ireturn, 1) := by decide +kernel
theorem dL_strip_19 : decode cL_strip 19 = .ok (.astore 5, 2) := by decide +kernel
theorem dL_strip_21 : decode cL_strip 21 = .ok (.iconst 2, 1) := by decide +kernel
theorem dL_strip_22 : decode cL_strip 22 = .ok (.ireturn, 1) := by decide +kernel
theorem dL_strip_23 : decode cL_strip 23 = .ok (.iconst 0, 1) := by decide +kernel
theorem dL_strip_24 : decode cL_strip 24 = .ok (.ireturn, 1) := by decide +kernel
abbrev mL_strip : MM := (RL, cL_strip, 6, (some .int), yL_strip, tableOf [(0, 12, 15, 18), (0, 12, 19, 13)])
theorem fs_L_strip : MsYSW mL_strip [(0, 12, 15, 18), (0, 12, 19, 13)] := ⟨List.mem_of_getElem? (i := 1439) (by decide +kernel), List.mem_of_getElem? (i := 138) (by decide +kernel), List.mem_of_getElem? (i := 1440) (by decide +kernel), by decide +kernel, by decide +kernel, by decide⟩
theorem hc_L_strip {G : MG} : ∀ e v, hn_b e = some v → MsCatch mL_strip G 7 e v := hn_bc ⟨[], ⟨0, 12, 15, 18⟩, [⟨0, 12, 19, 13⟩], 17, 1, rfl, (fun z hz => by cases hz), rfl, by decide, List.mem_of_getElem? (i := 982) (by decide +kernel), List.mem_of_getElem? (i := 992) (by decide +kernel), Or.inr ⟨5, dL_strip_15, by decide, rfl⟩, dL_strip_17, by decide +kernel, dL_strip_18, rfl⟩ ⟨[⟨0, 12, 15, 18⟩], ⟨0, 12, 19, 13⟩, [], 21, 2, rfl, (fun z hz => by
    rw [List.mem_singleton.mp hz]
    exact Or.inr ⟨by decide, "java/util/NoSuchElementException", List.mem_of_getElem? (i := 982) (by decide +kernel), fun s h => h.2.2.2.2.2.2.2.2.2.2⟩), rfl, by decide, List.mem_of_getElem? (i := 678) (by decide +kernel), List.mem_of_getElem? (i := 689) (by decide +kernel), Or.inr ⟨5, dL_strip_19, by decide, rfl⟩, dL_strip_21, by decide +kernel, dL_strip_22, rfl⟩
def f_L_strip (σ : MsSt) (l1 : Int32) (l2 : Int32) (l3 : Int32) : Option (Int32 × MsSt) :=
  ms_cx2 (f_X10_strip σ 0 l1 l2 l3) (fun v1 s2 =>
    (ms_asj s2 517 0 v1.toInt64).bind fun s3 =>
    some (0, s3))
    hn_b
set_option maxRecDepth 100000 in
theorem sp_L_strip (G : MG) (hG : (g_l G).stackTraces = false) (d : Nat) (hd : 10 ≤ d) (σ : MsSt) (l1 : Int32) (l2 : Int32) (l3 : Int32) : MsSpecW G mL_strip [(0, 12, 15, 18), (0, 12, 19, 13)] d 3 18 [.ref 0, .int l1, .int l2, .int l3, .ref 517] σ ms_wi (f_L_strip σ l1 l2 l3) := by
  refine ms_startW (by decide +kernel) rfl rfl (Nat.le_of_ble_eq_true rfl) ?_
  show TrO G mL_strip d 3 18 0 0 ms_wi 0 [(0, .ref 0), (1, .int l1), (2, .int l2), (3, .int l3), (4, .ref 517)] [] σ (ms_cx2 (f_X10_strip σ 0 l1 l2 l3) (fun v1 s2 => (ms_asj s2 517 0 v1.toInt64).bind fun s3 => some (0, s3)) hn_b)
  refine tr_aload (i := 4) dL_strip_0 rfl ?_
  refine tr_iconst (v := 0) dL_strip_2 (by decide +kernel) ?_
  refine tr_aload_n (i := 0) dL_strip_3 rfl ?_
  refine tr_iload_n (i := 1) dL_strip_4 rfl ?_
  refine tr_iload_n (i := 2) dL_strip_5 rfl ?_
  refine tr_iload_n (i := 3) dL_strip_6 rfl ?_
  refine tr_cx2 (val := Value.int) (fun _ _ => rfl) (fun _ _ => rfl) (ms_cV (rest := [.int 0, .ref 517]) (al := [.int l1, .int l2, .int l3]) 10 (sp_X10_strip G hG (d - 1) (by omega) σ 0 l1 l2 l3 kd_0) kd_0 (by decide +kernel) kl_L_110 fv_X10_strip dL_strip_7 (show _ = some 3 by decide +kernel) (by omega) (Nat.le_of_ble_eq_true rfl) (by decide) (by decide)) (by decide) (by decide) hc_L_strip (fun v1 s2 => ?_)
  refine tr_i2l dL_strip_10 ?_
  refine tr_asj kd_517 dL_strip_11 (fun s3 => ?_)
  refine tr_goto (tgt := 23) dL_strip_12 (by decide) ?_
  refine tr_iconst (v := 0) dL_strip_23 (by decide +kernel) ?_
  exact tr_iret rfl rfl (by decide) (by decide) dL_strip_24
theorem dL_decompose_0 : decode cL_decompose 0 = .ok (.aload_n 2, 1) := by decide +kernel
theorem dL_decompose_1 : decode cL_decompose 1 = .ok (.iconst 0, 1) := by decide +kernel
theorem dL_decompose_2 : decode cL_decompose 2 = .ok (.aload_n 0, 1) := by decide +kernel
theorem dL_decompose_3 : decode cL_decompose 3 = .ok (.iload_n 1, 1) := by decide +kernel
theorem dL_decompose_4 : decode cL_decompose 4 = .ok (.invokevirtual 113, 3) := by decide +kernel
theorem dL_decompose_7 : decode cL_decompose 7 = .ok (.i2l, 1) := by decide +kernel
theorem dL_decompose_8 : decode cL_decompose 8 = .ok (.lastore, 1) := by decide +kernel
theorem dL_decompose_9 : decode cL_decompose 9 = .ok (.goto 6, 3) := by decide +kernel
theorem dL_decompose_12 : decode cL_decompose 12 = .ok (.astore_n 3, 1) := by decide +kernel
theorem dL_decompose_13 : decode cL_decompose 13 = .ok (.iconst 1, 1) := by decide +kernel
theorem dL_decompose_14 : decode cL_decompose 14 = .ok (.ireturn, 1) := by decide +kernel
theorem dL_decompose_15 : decode cL_decompose 15 = .ok (.iconst 0, 1) := by decide +kernel
theorem dL_decompose_16 : decode cL_decompose 16 = .ok (.ireturn, 1) := by decide +kernel
abbrev mL_decompose : MM := (RL, cL_decompose, 4, (some .int), yL_decompose, tableOf [(0, 9, 12, 18)])
theorem fs_L_decompose : MsYSW mL_decompose [(0, 9, 12, 18)] := ⟨List.mem_of_getElem? (i := 1458) (by decide +kernel), List.mem_of_getElem? (i := 138) (by decide +kernel), List.mem_of_getElem? (i := 1459) (by decide +kernel), by decide +kernel, by decide +kernel, by decide⟩
theorem hc_L_decompose {G : MG} : ∀ e v, hn_n e = some v → MsCatch mL_decompose G 4 e v := hn_nc ⟨[], ⟨0, 9, 12, 18⟩, [], 13, 1, rfl, (fun z hz => by cases hz), rfl, by decide, List.mem_of_getElem? (i := 982) (by decide +kernel), List.mem_of_getElem? (i := 992) (by decide +kernel), Or.inl ⟨3, dL_decompose_12, by decide, rfl⟩, dL_decompose_13, by decide +kernel, dL_decompose_14, rfl⟩
def f_L_decompose (σ : MsSt) (l1 : Int32) : Option (Int32 × MsSt) :=
  ms_cx2 (f_X10_decompose σ 0 l1) (fun v1 s2 =>
    (ms_asj s2 517 0 v1.toInt64).bind fun s3 =>
    some (0, s3))
    hn_n
set_option maxRecDepth 100000 in
theorem sp_L_decompose (G : MG) (hG : (g_l G).stackTraces = false) (d : Nat) (hd : 9 ≤ d) (σ : MsSt) (l1 : Int32) : MsSpecW G mL_decompose [(0, 9, 12, 18)] d 1 6 [.ref 0, .int l1, .ref 517] σ ms_wi (f_L_decompose σ l1) := by
  refine ms_startW (by decide +kernel) rfl rfl (Nat.le_of_ble_eq_true rfl) ?_
  show TrO G mL_decompose d 1 6 0 0 ms_wi 0 [(0, .ref 0), (1, .int l1), (2, .ref 517)] [] σ (ms_cx2 (f_X10_decompose σ 0 l1) (fun v1 s2 => (ms_asj s2 517 0 v1.toInt64).bind fun s3 => some (0, s3)) hn_n)
  refine tr_aload_n (i := 2) dL_decompose_0 rfl ?_
  refine tr_iconst (v := 0) dL_decompose_1 (by decide +kernel) ?_
  refine tr_aload_n (i := 0) dL_decompose_2 rfl ?_
  refine tr_iload_n (i := 1) dL_decompose_3 rfl ?_
  refine tr_cx2 (val := Value.int) (fun _ _ => rfl) (fun _ _ => rfl) (ms_cV (rest := [.int 0, .ref 517]) (al := [.int l1]) 10 (sp_X10_decompose G hG (d - 1) (by omega) σ 0 l1 kd_0) kd_0 (by decide +kernel) kl_L_113 fv_X10_decompose dL_decompose_4 (show _ = some 1 by decide +kernel) (by omega) (Nat.le_of_ble_eq_true rfl) (by decide) (by decide)) (by decide) (by decide) hc_L_decompose (fun v1 s2 => ?_)
  refine tr_i2l dL_decompose_7 ?_
  refine tr_asj kd_517 dL_decompose_8 (fun s3 => ?_)
  refine tr_goto (tgt := 15) dL_decompose_9 (by decide) ?_
  refine tr_iconst (v := 0) dL_decompose_15 (by decide +kernel) ?_
  exact tr_iret rfl rfl (by decide) (by decide) dL_decompose_16
theorem dL_compose_0 : decode cL_compose 0 = .ok (.aload_n 2, 1) := by decide +kernel
theorem dL_compose_1 : decode cL_compose 1 = .ok (.iconst 0, 1) := by decide +kernel
theorem dL_compose_2 : decode cL_compose 2 = .ok (.aload_n 0, 1) := by decide +kernel
theorem dL_compose_3 : decode cL_compose 3 = .ok (.iload_n 1, 1) := by decide +kernel
theorem dL_compose_4 : decode cL_compose 4 = .ok (.invokevirtual 116, 3) := by decide +kernel
theorem dL_compose_7 : decode cL_compose 7 = .ok (.i2l, 1) := by decide +kernel
theorem dL_compose_8 : decode cL_compose 8 = .ok (.lastore, 1) := by decide +kernel
theorem dL_compose_9 : decode cL_compose 9 = .ok (.goto 6, 3) := by decide +kernel
theorem dL_compose_12 : decode cL_compose 12 = .ok (.astore_n 3, 1) := by decide +kernel
theorem dL_compose_13 : decode cL_compose 13 = .ok (.iconst 1, 1) := by decide +kernel
theorem dL_compose_14 : decode cL_compose 14 = .ok (.ireturn, 1) := by decide +kernel
theorem dL_compose_15 : decode cL_compose 15 = .ok (.iconst 0, 1) := by decide +kernel
theorem dL_compose_16 : decode cL_compose 16 = .ok (.ireturn, 1) := by decide +kernel
abbrev mL_compose : MM := (RL, cL_compose, 4, (some .int), yL_compose, tableOf [(0, 9, 12, 18)])
theorem fs_L_compose : MsYSW mL_compose [(0, 9, 12, 18)] := ⟨List.mem_of_getElem? (i := 1469) (by decide +kernel), List.mem_of_getElem? (i := 138) (by decide +kernel), List.mem_of_getElem? (i := 1470) (by decide +kernel), by decide +kernel, by decide +kernel, by decide⟩
theorem hc_L_compose {G : MG} : ∀ e v, hn_n e = some v → MsCatch mL_compose G 4 e v := hn_nc ⟨[], ⟨0, 9, 12, 18⟩, [], 13, 1, rfl, (fun z hz => by cases hz), rfl, by decide, List.mem_of_getElem? (i := 982) (by decide +kernel), List.mem_of_getElem? (i := 992) (by decide +kernel), Or.inl ⟨3, dL_compose_12, by decide, rfl⟩, dL_compose_13, by decide +kernel, dL_compose_14, rfl⟩
def f_L_compose (σ : MsSt) (l1 : Int32) : Option (Int32 × MsSt) :=
  ms_cx2 (f_X10_compose σ 0 l1) (fun v1 s2 =>
    (ms_asj s2 517 0 v1.toInt64).bind fun s3 =>
    some (0, s3))
    hn_n
set_option maxRecDepth 100000 in
theorem sp_L_compose (G : MG) (hG : (g_l G).stackTraces = false) (d : Nat) (hd : 9 ≤ d) (σ : MsSt) (l1 : Int32) : MsSpecW G mL_compose [(0, 9, 12, 18)] d 1 6 [.ref 0, .int l1, .ref 517] σ ms_wi (f_L_compose σ l1) := by
  refine ms_startW (by decide +kernel) rfl rfl (Nat.le_of_ble_eq_true rfl) ?_
  show TrO G mL_compose d 1 6 0 0 ms_wi 0 [(0, .ref 0), (1, .int l1), (2, .ref 517)] [] σ (ms_cx2 (f_X10_compose σ 0 l1) (fun v1 s2 => (ms_asj s2 517 0 v1.toInt64).bind fun s3 => some (0, s3)) hn_n)
  refine tr_aload_n (i := 2) dL_compose_0 rfl ?_
  refine tr_iconst (v := 0) dL_compose_1 (by decide +kernel) ?_
  refine tr_aload_n (i := 0) dL_compose_2 rfl ?_
  refine tr_iload_n (i := 1) dL_compose_3 rfl ?_
  refine tr_cx2 (val := Value.int) (fun _ _ => rfl) (fun _ _ => rfl) (ms_cV (rest := [.int 0, .ref 517]) (al := [.int l1]) 10 (sp_X10_compose G hG (d - 1) (by omega) σ 0 l1 kd_0) kd_0 (by decide +kernel) kl_L_116 fv_X10_compose dL_compose_4 (show _ = some 1 by decide +kernel) (by omega) (Nat.le_of_ble_eq_true rfl) (by decide) (by decide)) (by decide) (by decide) hc_L_compose (fun v1 s2 => ?_)
  refine tr_i2l dL_compose_7 ?_
  refine tr_asj kd_517 dL_compose_8 (fun s3 => ?_)
  refine tr_goto (tgt := 15) dL_compose_9 (by decide) ?_
  refine tr_iconst (v := 0) dL_compose_15 (by decide +kernel) ?_
  exact tr_iret rfl rfl (by decide) (by decide) dL_compose_16
theorem dL_join_0 : decode cL_join 0 = .ok (.aload_n 3, 1) := by decide +kernel
theorem dL_join_1 : decode cL_join 1 = .ok (.iconst 0, 1) := by decide +kernel
theorem dL_join_2 : decode cL_join 2 = .ok (.aload_n 0, 1) := by decide +kernel
theorem dL_join_3 : decode cL_join 3 = .ok (.iload_n 1, 1) := by decide +kernel
theorem dL_join_4 : decode cL_join 4 = .ok (.iload_n 2, 1) := by decide +kernel
theorem dL_join_5 : decode cL_join 5 = .ok (.invokevirtual 119, 3) := by decide +kernel
theorem dL_join_8 : decode cL_join 8 = .ok (.i2l, 1) := by decide +kernel
theorem dL_join_9 : decode cL_join 9 = .ok (.lastore, 1) := by decide +kernel
theorem dL_join_10 : decode cL_join 10 = .ok (.goto 7, 3) := by decide +kernel
theorem dL_join_13 : decode cL_join 13 = .ok (.astore 4, 2) := by decide +kernel
theorem dL_join_15 : decode cL_join 15 = .ok (.iconst 1, 1) := by decide +kernel
theorem dL_join_16 : decode cL_join 16 = .ok (.ireturn, 1) := by decide +kernel
theorem dL_join_17 : decode cL_join 17 = .ok (.iconst 0, 1) := by decide +kernel
theorem dL_join_18 : decode cL_join 18 = .ok (.ireturn, 1) := by decide +kernel
abbrev mL_join : MM := (RL, cL_join, 5, (some .int), yL_join, tableOf [(0, 10, 13, 18)])
theorem fs_L_join : MsYSW mL_join [(0, 10, 13, 18)] := ⟨List.mem_of_getElem? (i := 1476) (by decide +kernel), List.mem_of_getElem? (i := 138) (by decide +kernel), List.mem_of_getElem? (i := 1477) (by decide +kernel), by decide +kernel, by decide +kernel, by decide⟩
theorem hc_L_join {G : MG} : ∀ e v, hn_n e = some v → MsCatch mL_join G 5 e v := hn_nc ⟨[], ⟨0, 10, 13, 18⟩, [], 15, 1, rfl, (fun z hz => by cases hz), rfl, by decide, List.mem_of_getElem? (i := 982) (by decide +kernel), List.mem_of_getElem? (i := 992) (by decide +kernel), Or.inr ⟨4, dL_join_13, by decide, rfl⟩, dL_join_15, by decide +kernel, dL_join_16, rfl⟩
def f_L_join (σ : MsSt) (l1 : Int32) (l2 : Int32) : Option (Int32 × MsSt) :=
  ms_cx2 (f_X10_join σ 0 l1 l2) (fun v1 s2 =>
    (ms_asj s2 517 0 v1.toInt64).bind fun s3 =>
    some (0, s3))
    hn_n
set_option maxRecDepth 100000 in
theorem sp_L_join (G : MG) (hG : (g_l G).stackTraces = false) (d : Nat) (hd : 9 ≤ d) (σ : MsSt) (l1 : Int32) (l2 : Int32) : MsSpecW G mL_join [(0, 10, 13, 18)] d 2 12 [.ref 0, .int l1, .int l2, .ref 517] σ ms_wi (f_L_join σ l1 l2) := by
  refine ms_startW (by decide +kernel) rfl rfl (Nat.le_of_ble_eq_true rfl) ?_
  show TrO G mL_join d 2 12 0 0 ms_wi 0 [(0, .ref 0), (1, .int l1), (2, .int l2), (3, .ref 517)] [] σ (ms_cx2 (f_X10_join σ 0 l1 l2) (fun v1 s2 => (ms_asj s2 517 0 v1.toInt64).bind fun s3 => some (0, s3)) hn_n)
  refine tr_aload_n (i := 3) dL_join_0 rfl ?_
  refine tr_iconst (v := 0) dL_join_1 (by decide +kernel) ?_
  refine tr_aload_n (i := 0) dL_join_2 rfl ?_
  refine tr_iload_n (i := 1) dL_join_3 rfl ?_
  refine tr_iload_n (i := 2) dL_join_4 rfl ?_
  refine tr_cx2 (val := Value.int) (fun _ _ => rfl) (fun _ _ => rfl) (ms_cV (rest := [.int 0, .ref 517]) (al := [.int l1, .int l2]) 10 (sp_X10_join G hG (d - 1) (by omega) σ 0 l1 l2 kd_0) kd_0 (by decide +kernel) kl_L_119 fv_X10_join dL_join_5 (show _ = some 2 by decide +kernel) (by omega) (Nat.le_of_ble_eq_true rfl) (by decide) (by decide)) (by decide) (by decide) hc_L_join (fun v1 s2 => ?_)
  refine tr_i2l dL_join_8 ?_
  refine tr_asj kd_517 dL_join_9 (fun s3 => ?_)
  refine tr_goto (tgt := 17) dL_join_10 (by decide) ?_
  refine tr_iconst (v := 0) dL_join_17 (by decide +kernel) ?_
  exact tr_iret rfl rfl (by decide) (by decide) dL_join_18
theorem dL_setClass_0 : decode cL_setClass 0 = .ok (.aload_n 3, 1) := by decide +kernel
theorem dL_setClass_1 : decode cL_setClass 1 = .ok (.iconst 0, 1) := by decide +kernel
theorem dL_setClass_2 : decode cL_setClass 2 = .ok (.aload_n 0, 1) := by decide +kernel
theorem dL_setClass_3 : decode cL_setClass 3 = .ok (.iload_n 1, 1) := by decide +kernel
theorem dL_setClass_4 : decode cL_setClass 4 = .ok (.iload_n 2, 1) := by decide +kernel
theorem dL_setClass_5 : decode cL_setClass 5 = .ok (.invokevirtual 122, 3) := by decide +kernel
theorem dL_setClass_8 : decode cL_setClass 8 = .ok (.i2l, 1) := by decide +kernel
theorem dL_setClass_9 : decode cL_setClass 9 = .ok (.lastore, 1) := by decide +kernel
theorem dL_setClass_10 : decode cL_setClass 10 = .ok (.goto 11, 3) := by decide +kernel
theorem dL_setClass_13 : decode cL_setClass 13 = .ok (.astore 4, 2) := by decide +kernel
theorem dL_setClass_15 : decode cL_setClass 15 = .ok (.iconst 1, 1) := by decide +kernel
theorem dL_setClass_16 : decode cL_setClass 16 = .ok (.ireturn, 1) := by decide +kernel
theorem dL_setClass_17 : decode cL_setClass 17 = .ok (.astore 4, 2) := by decide +kernel
theorem dL_setClass_19 : decode cL_setClass 19 = .ok (.iconst 2, 1) := by decide +kernel
theorem dL_setClass_20 : decode cL_setClass 20 = .ok (.ireturn, 1) := by decide +kernel
theorem dL_setClass_21 : decode cL_setClass 21 = .ok (.iconst 0, 1) := by decide +kernel
theorem dL_setClass_22 : decode cL_setClass 22 = .ok (.ireturn, 1) := by decide +kernel
abbrev mL_setClass : MM := (RL, cL_setClass, 5, (some .int), yL_setClass, tableOf [(0, 10, 13, 18), (0, 10, 17, 13)])
theorem fs_L_setClass : MsYSW mL_setClass [(0, 10, 13, 18), (0, 10, 17, 13)] := ⟨List.mem_of_getElem? (i := 1484) (by decide +kernel), List.mem_of_getElem? (i := 138) (by decide +kernel), List.mem_of_getElem? (i := 1485) (by decide +kernel), by decide +kernel, by decide +kernel, by decide⟩
theorem hc_L_setClass {G : MG} : ∀ e v, hn_b e = some v → MsCatch mL_setClass G 5 e v := hn_bc ⟨[], ⟨0, 10, 13, 18⟩, [⟨0, 10, 17, 13⟩], 15, 1, rfl, (fun z hz => by cases hz), rfl, by decide, List.mem_of_getElem? (i := 982) (by decide +kernel), List.mem_of_getElem? (i := 992) (by decide +kernel), Or.inr ⟨4, dL_setClass_13, by decide, rfl⟩, dL_setClass_15, by decide +kernel, dL_setClass_16, rfl⟩ ⟨[⟨0, 10, 13, 18⟩], ⟨0, 10, 17, 13⟩, [], 19, 2, rfl, (fun z hz => by
    rw [List.mem_singleton.mp hz]
    exact Or.inr ⟨by decide, "java/util/NoSuchElementException", List.mem_of_getElem? (i := 982) (by decide +kernel), fun s h => h.2.2.2.2.2.2.2.2.2.2⟩), rfl, by decide, List.mem_of_getElem? (i := 678) (by decide +kernel), List.mem_of_getElem? (i := 689) (by decide +kernel), Or.inr ⟨4, dL_setClass_17, by decide, rfl⟩, dL_setClass_19, by decide +kernel, dL_setClass_20, rfl⟩
def f_L_setClass (σ : MsSt) (l1 : Int32) (l2 : Int32) : Option (Int32 × MsSt) :=
  ms_cx2 (f_X10_setClass σ 0 l1 l2) (fun v1 s2 =>
    (ms_asj s2 517 0 v1.toInt64).bind fun s3 =>
    some (0, s3))
    hn_b
set_option maxRecDepth 100000 in
theorem sp_L_setClass (G : MG) (hG : (g_l G).stackTraces = false) (d : Nat) (hd : 9 ≤ d) (σ : MsSt) (l1 : Int32) (l2 : Int32) : MsSpecW G mL_setClass [(0, 10, 13, 18), (0, 10, 17, 13)] d 3 18 [.ref 0, .int l1, .int l2, .ref 517] σ ms_wi (f_L_setClass σ l1 l2) := by
  refine ms_startW (by decide +kernel) rfl rfl (Nat.le_of_ble_eq_true rfl) ?_
  show TrO G mL_setClass d 3 18 0 0 ms_wi 0 [(0, .ref 0), (1, .int l1), (2, .int l2), (3, .ref 517)] [] σ (ms_cx2 (f_X10_setClass σ 0 l1 l2) (fun v1 s2 => (ms_asj s2 517 0 v1.toInt64).bind fun s3 => some (0, s3)) hn_b)
  refine tr_aload_n (i := 3) dL_setClass_0 rfl ?_
  refine tr_iconst (v := 0) dL_setClass_1 (by decide +kernel) ?_
  refine tr_aload_n (i := 0) dL_setClass_2 rfl ?_
  refine tr_iload_n (i := 1) dL_setClass_3 rfl ?_
  refine tr_iload_n (i := 2) dL_setClass_4 rfl ?_
  refine tr_cx2 (val := Value.int) (fun _ _ => rfl) (fun _ _ => rfl) (ms_cV (rest := [.int 0, .ref 517]) (al := [.int l1, .int l2]) 10 (sp_X10_setClass G hG (d - 1) (by omega) σ 0 l1 l2 kd_0) kd_0 (by decide +kernel) kl_L_122 fv_X10_setClass dL_setClass_5 (show _ = some 2 by decide +kernel) (by omega) (Nat.le_of_ble_eq_true rfl) (by decide) (by decide)) (by decide) (by decide) hc_L_setClass (fun v1 s2 => ?_)
  refine tr_i2l dL_setClass_8 ?_
  refine tr_asj kd_517 dL_setClass_9 (fun s3 => ?_)
  refine tr_goto (tgt := 21) dL_setClass_10 (by decide) ?_
  refine tr_iconst (v := 0) dL_setClass_21 (by decide +kernel) ?_
  exact tr_iret rfl rfl (by decide) (by decide) dL_setClass_22
theorem dL_setSpare_0 : decode cL_setSpare 0 = .ok (.aload_n 3, 1) := by decide +kernel
theorem dL_setSpare_1 : decode cL_setSpare 1 = .ok (.iconst 0, 1) := by decide +kernel
theorem dL_setSpare_2 : decode cL_setSpare 2 = .ok (.aload_n 0, 1) := by decide +kernel
theorem dL_setSpare_3 : decode cL_setSpare 3 = .ok (.iload_n 1, 1) := by decide +kernel
theorem dL_setSpare_4 : decode cL_setSpare 4 = .ok (.iload_n 2, 1) := by decide +kernel
theorem dL_setSpare_5 : decode cL_setSpare 5 = .ok (.invokevirtual 125, 3) := by decide +kernel
theorem dL_setSpare_8 : decode cL_setSpare 8 = .ok (.i2l, 1) := by decide +kernel
theorem dL_setSpare_9 : decode cL_setSpare 9 = .ok (.lastore, 1) := by decide +kernel
theorem dL_setSpare_10 : decode cL_setSpare 10 = .ok (.goto 11, 3) := by decide +kernel
theorem dL_setSpare_13 : decode cL_setSpare 13 = .ok (.astore 4, 2) := by decide +kernel
theorem dL_setSpare_15 : decode cL_setSpare 15 = .ok (.iconst 1, 1) := by decide +kernel
theorem dL_setSpare_16 : decode cL_setSpare 16 = .ok (.ireturn, 1) := by decide +kernel
theorem dL_setSpare_17 : decode cL_setSpare 17 = .ok (.astore 4, 2) := by decide +kernel
theorem dL_setSpare_19 : decode cL_setSpare 19 = .ok (.iconst 2, 1) := by decide +kernel
theorem dL_setSpare_20 : decode cL_setSpare 20 = .ok (.ireturn, 1) := by decide +kernel
theorem dL_setSpare_21 : decode cL_setSpare 21 = .ok (.iconst 0, 1) := by decide +kernel
theorem dL_setSpare_22 : decode cL_setSpare 22 = .ok (.ireturn, 1) := by decide +kernel
abbrev mL_setSpare : MM := (RL, cL_setSpare, 5, (some .int), yL_setSpare, tableOf [(0, 10, 13, 18), (0, 10, 17, 13)])
theorem fs_L_setSpare : MsYSW mL_setSpare [(0, 10, 13, 18), (0, 10, 17, 13)] := ⟨List.mem_of_getElem? (i := 1491) (by decide +kernel), List.mem_of_getElem? (i := 138) (by decide +kernel), List.mem_of_getElem? (i := 1492) (by decide +kernel), by decide +kernel, by decide +kernel, by decide⟩
theorem hc_L_setSpare {G : MG} : ∀ e v, hn_b e = some v → MsCatch mL_setSpare G 5 e v := hn_bc ⟨[], ⟨0, 10, 13, 18⟩, [⟨0, 10, 17, 13⟩], 15, 1, rfl, (fun z hz => by cases hz), rfl, by decide, List.mem_of_getElem? (i := 982) (by decide +kernel), List.mem_of_getElem? (i := 992) (by decide +kernel), Or.inr ⟨4, dL_setSpare_13, by decide, rfl⟩, dL_setSpare_15, by decide +kernel, dL_setSpare_16, rfl⟩ ⟨[⟨0, 10, 13, 18⟩], ⟨0, 10, 17, 13⟩, [], 19, 2, rfl, (fun z hz => by
    rw [List.mem_singleton.mp hz]
    exact Or.inr ⟨by decide, "java/util/NoSuchElementException", List.mem_of_getElem? (i := 982) (by decide +kernel), fun s h => h.2.2.2.2.2.2.2.2.2.2⟩), rfl, by decide, List.mem_of_getElem? (i := 678) (by decide +kernel), List.mem_of_getElem? (i := 689) (by decide +kernel), Or.inr ⟨4, dL_setSpare_17, by decide, rfl⟩, dL_setSpare_19, by decide +kernel, dL_setSpare_20, rfl⟩
def f_L_setSpare (σ : MsSt) (l1 : Int32) (l2 : Int32) : Option (Int32 × MsSt) :=
  ms_cx2 (f_X10_setSpare σ 0 l1 l2) (fun v1 s2 =>
    (ms_asj s2 517 0 v1.toInt64).bind fun s3 =>
    some (0, s3))
    hn_b
set_option maxRecDepth 100000 in
theorem sp_L_setSpare (G : MG) (hG : (g_l G).stackTraces = false) (d : Nat) (hd : 9 ≤ d) (σ : MsSt) (l1 : Int32) (l2 : Int32) : MsSpecW G mL_setSpare [(0, 10, 13, 18), (0, 10, 17, 13)] d 2 12 [.ref 0, .int l1, .int l2, .ref 517] σ ms_wi (f_L_setSpare σ l1 l2) := by
  refine ms_startW (by decide +kernel) rfl rfl (Nat.le_of_ble_eq_true rfl) ?_
  show TrO G mL_setSpare d 2 12 0 0 ms_wi 0 [(0, .ref 0), (1, .int l1), (2, .int l2), (3, .ref 517)] [] σ (ms_cx2 (f_X10_setSpare σ 0 l1 l2) (fun v1 s2 => (ms_asj s2 517 0 v1.toInt64).bind fun s3 => some (0, s3)) hn_b)
  refine tr_aload_n (i := 3) dL_setSpare_0 rfl ?_
  refine tr_iconst (v := 0) dL_setSpare_1 (by decide +kernel) ?_
  refine tr_aload_n (i := 0) dL_setSpare_2 rfl ?_
  refine tr_iload_n (i := 1) dL_setSpare_3 rfl ?_
  refine tr_iload_n (i := 2) dL_setSpare_4 rfl ?_
  refine tr_cx2 (val := Value.int) (fun _ _ => rfl) (fun _ _ => rfl) (ms_cV (rest := [.int 0, .ref 517]) (al := [.int l1, .int l2]) 10 (sp_X10_setSpare G hG (d - 1) (by omega) σ 0 l1 l2 kd_0) kd_0 (by decide +kernel) kl_L_125 fv_X10_setSpare dL_setSpare_5 (show _ = some 2 by decide +kernel) (by omega) (Nat.le_of_ble_eq_true rfl) (by decide) (by decide)) (by decide) (by decide) hc_L_setSpare (fun v1 s2 => ?_)
  refine tr_i2l dL_setSpare_8 ?_
  refine tr_asj kd_517 dL_setSpare_9 (fun s3 => ?_)
  refine tr_goto (tgt := 21) dL_setSpare_10 (by decide) ?_
  refine tr_iconst (v := 0) dL_setSpare_21 (by decide +kernel) ?_
  exact tr_iret rfl rfl (by decide) (by decide) dL_setSpare_22
theorem dL_format_0 : decode cL_format 0 = .ok (.aload_n 3, 1) := by decide +kernel
theorem dL_format_1 : decode cL_format 1 = .ok (.iconst 0, 1) := by decide +kernel
theorem dL_format_2 : decode cL_format 2 = .ok (.aload_n 0, 1) := by decide +kernel
theorem dL_format_3 : decode cL_format 3 = .ok (.iload_n 1, 1) := by decide +kernel
theorem dL_format_4 : decode cL_format 4 = .ok (.iload_n 2, 1) := by decide +kernel
theorem dL_format_5 : decode cL_format 5 = .ok (.invokevirtual 129, 3) := by decide +kernel
theorem dL_format_8 : decode cL_format 8 = .ok (.i2l, 1) := by decide +kernel
theorem dL_format_9 : decode cL_format 9 = .ok (.lastore, 1) := by decide +kernel
theorem dL_format_10 : decode cL_format 10 = .ok (.goto 7, 3) := by decide +kernel
theorem dL_format_13 : decode cL_format 13 = .ok (.astore 4, 2) := by decide +kernel
theorem dL_format_15 : decode cL_format 15 = .ok (.iconst 1, 1) := by decide +kernel
theorem dL_format_16 : decode cL_format 16 = .ok (.ireturn, 1) := by decide +kernel
theorem dL_format_17 : decode cL_format 17 = .ok (.iconst 0, 1) := by decide +kernel
theorem dL_format_18 : decode cL_format 18 = .ok (.ireturn, 1) := by decide +kernel
abbrev mL_format : MM := (RL, cL_format, 5, (some .int), yL_format, tableOf [(0, 10, 13, 18)])
theorem fs_L_format : MsYSW mL_format [(0, 10, 13, 18)] := ⟨List.mem_of_getElem? (i := 1498) (by decide +kernel), List.mem_of_getElem? (i := 138) (by decide +kernel), List.mem_of_getElem? (i := 1499) (by decide +kernel), by decide +kernel, by decide +kernel, by decide⟩
theorem hc_L_format {G : MG} : ∀ e v, hn_n e = some v → MsCatch mL_format G 5 e v := hn_nc ⟨[], ⟨0, 10, 13, 18⟩, [], 15, 1, rfl, (fun z hz => by cases hz), rfl, by decide, List.mem_of_getElem? (i := 982) (by decide +kernel), List.mem_of_getElem? (i := 992) (by decide +kernel), Or.inr ⟨4, dL_format_13, by decide, rfl⟩, dL_format_15, by decide +kernel, dL_format_16, rfl⟩
def f_L_format (σ : MsSt) (l1 : Int32) (l2 : Int32) : Option (Int32 × MsSt) :=
  ms_cx2 (f_X10_format σ 0 l1 l2) (fun v1 s2 =>
    (ms_asj s2 517 0 v1.toInt64).bind fun s3 =>
    some (0, s3))
    hn_n
set_option maxRecDepth 100000 in
theorem sp_L_format (G : MG) (hG : (g_l G).stackTraces = false) (d : Nat) (hd : 9 ≤ d) (σ : MsSt) (l1 : Int32) (l2 : Int32) : MsSpecW G mL_format [(0, 10, 13, 18)] d 2 12 [.ref 0, .int l1, .int l2, .ref 517] σ ms_wi (f_L_format σ l1 l2) := by
  refine ms_startW (by decide +kernel) rfl rfl (Nat.le_of_ble_eq_true rfl) ?_
  show TrO G mL_format d 2 12 0 0 ms_wi 0 [(0, .ref 0), (1, .int l1), (2, .int l2), (3, .ref 517)] [] σ (ms_cx2 (f_X10_format σ 0 l1 l2) (fun v1 s2 => (ms_asj s2 517 0 v1.toInt64).bind fun s3 => some (0, s3)) hn_n)
  refine tr_aload_n (i := 3) dL_format_0 rfl ?_
  refine tr_iconst (v := 0) dL_format_1 (by decide +kernel) ?_
  refine tr_aload_n (i := 0) dL_format_2 rfl ?_
  refine tr_iload_n (i := 1) dL_format_3 rfl ?_
  refine tr_iload_n (i := 2) dL_format_4 rfl ?_
  refine tr_cx2 (val := Value.int) (fun _ _ => rfl) (fun _ _ => rfl) (ms_cV (rest := [.int 0, .ref 517]) (al := [.int l1, .int l2]) 10 (sp_X10_format G hG (d - 1) (by omega) σ 0 l1 l2 kd_0) kd_0 (by decide +kernel) kl_L_129 fv_X10_format dL_format_5 (show _ = some 2 by decide +kernel) (by omega) (Nat.le_of_ble_eq_true rfl) (by decide) (by decide)) (by decide) (by decide) hc_L_format (fun v1 s2 => ?_)
  refine tr_i2l dL_format_8 ?_
  refine tr_asj kd_517 dL_format_9 (fun s3 => ?_)
  refine tr_goto (tgt := 17) dL_format_10 (by decide) ?_
  refine tr_iconst (v := 0) dL_format_17 (by decide +kernel) ?_
  exact tr_iret rfl rfl (by decide) (by decide) dL_format_18
theorem dL_query_0 : decode cL_query 0 = .ok (.aload_n 2, 1) := by decide +kernel
theorem dL_query_1 : decode cL_query 1 = .ok (.iconst 0, 1) := by decide +kernel
theorem dL_query_2 : decode cL_query 2 = .ok (.aload_n 0, 1) := by decide +kernel
theorem dL_query_3 : decode cL_query 3 = .ok (.iload_n 1, 1) := by decide +kernel
theorem dL_query_4 : decode cL_query 4 = .ok (.invokevirtual 132, 3) := by decide +kernel
theorem dL_query_7 : decode cL_query 7 = .ok (.i2l, 1) := by decide +kernel
theorem dL_query_8 : decode cL_query 8 = .ok (.lastore, 1) := by decide +kernel
theorem dL_query_9 : decode cL_query 9 = .ok (.goto 6, 3) := by decide +kernel
theorem dL_query_12 : decode cL_query 12 = .ok (.astore_n 3, 1) := by decide +kernel
theorem dL_query_13 : decode cL_query 13 = .ok (.iconst 1, 1) := by decide +kernel
theorem dL_query_14 : decode cL_query 14 = .ok (.ireturn, 1) := by decide +kernel
theorem dL_query_15 : decode cL_query 15 = .ok (.iconst 0, 1) := by decide +kernel
theorem dL_query_16 : decode cL_query 16 = .ok (.ireturn, 1) := by decide +kernel
abbrev mL_query : MM := (RL, cL_query, 4, (some .int), yL_query, tableOf [(0, 9, 12, 13)])
theorem fs_L_query : MsYSW mL_query [(0, 9, 12, 13)] := ⟨List.mem_of_getElem? (i := 1509) (by decide +kernel), List.mem_of_getElem? (i := 138) (by decide +kernel), List.mem_of_getElem? (i := 1510) (by decide +kernel), by decide +kernel, by decide +kernel, by decide⟩
theorem hc_L_query {G : MG} : ∀ e v, hn_i e = some v → MsCatch mL_query G 4 e v := hn_ic ⟨[], ⟨0, 9, 12, 13⟩, [], 13, 1, rfl, (fun z hz => by cases hz), rfl, by decide, List.mem_of_getElem? (i := 678) (by decide +kernel), List.mem_of_getElem? (i := 689) (by decide +kernel), Or.inl ⟨3, dL_query_12, by decide, rfl⟩, dL_query_13, by decide +kernel, dL_query_14, rfl⟩
def f_L_query (σ : MsSt) (l1 : Int32) : Option (Int32 × MsSt) :=
  ms_cx2 (f_X10_query σ 0 l1) (fun v1 s2 =>
    (ms_asj s2 517 0 v1.toInt64).bind fun s3 =>
    some (0, s3))
    hn_i
set_option maxRecDepth 100000 in
theorem sp_L_query (G : MG) (hG : (g_l G).stackTraces = false) (d : Nat) (hd : 34 ≤ d) (σ : MsSt) (l1 : Int32) : MsSpecW G mL_query [(0, 9, 12, 13)] d 1 6 [.ref 0, .int l1, .ref 517] σ ms_wi (f_L_query σ l1) := by
  refine ms_startW (by decide +kernel) rfl rfl (Nat.le_of_ble_eq_true rfl) ?_
  show TrO G mL_query d 1 6 0 0 ms_wi 0 [(0, .ref 0), (1, .int l1), (2, .ref 517)] [] σ (ms_cx2 (f_X10_query σ 0 l1) (fun v1 s2 => (ms_asj s2 517 0 v1.toInt64).bind fun s3 => some (0, s3)) hn_i)
  refine tr_aload_n (i := 2) dL_query_0 rfl ?_
  refine tr_iconst (v := 0) dL_query_1 (by decide +kernel) ?_
  refine tr_aload_n (i := 0) dL_query_2 rfl ?_
  refine tr_iload_n (i := 1) dL_query_3 rfl ?_
  refine tr_cx2 (val := Value.int) (fun _ _ => rfl) (fun _ _ => rfl) (ms_cV (rest := [.int 0, .ref 517]) (al := [.int l1]) 10 (sp_X10_query G hG (d - 1) (by omega) σ 0 l1 kd_0) kd_0 (by decide +kernel) kl_L_132 fv_X10_query dL_query_4 (show _ = some 1 by decide +kernel) (by omega) (Nat.le_of_ble_eq_true rfl) (by decide) (by decide)) (by decide) (by decide) hc_L_query (fun v1 s2 => ?_)
  refine tr_i2l dL_query_7 ?_
  refine tr_asj kd_517 dL_query_8 (fun s3 => ?_)
  refine tr_goto (tgt := 15) dL_query_9 (by decide) ?_
  refine tr_iconst (v := 0) dL_query_15 (by decide +kernel) ?_
  exact tr_iret rfl rfl (by decide) (by decide) dL_query_16
