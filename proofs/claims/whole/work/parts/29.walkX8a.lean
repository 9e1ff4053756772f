/-! X8: the bytecode does what the functions say (by program: wip/whole/gen) -/
theorem dX8_isSignAhead_0 : decode cX8_isSignAhead 0 = .ok (.aload_n 0, 1) := by decide +kernel
theorem dX8_isSignAhead_1 : decode cX8_isSignAhead 1 = .ok (.getfield 9, 3) := by decide +kernel
theorem dX8_isSignAhead_4 : decode cX8_isSignAhead 4 = .ok (.ldc 35, 2) := by decide +kernel
theorem dX8_isSignAhead_6 : decode cX8_isSignAhead 6 = .ok (.invokevirtual 37, 3) := by decide +kernel
theorem dX8_isSignAhead_9 : decode cX8_isSignAhead 9 = .ok (.ifCond .ne 27, 3) := by decide +kernel
theorem dX8_isSignAhead_12 : decode cX8_isSignAhead 12 = .ok (.aload_n 0, 1) := by decide +kernel
theorem dX8_isSignAhead_13 : decode cX8_isSignAhead 13 = .ok (.getfield 9, 3) := by decide +kernel
theorem dX8_isSignAhead_16 : decode cX8_isSignAhead 16 = .ok (.ldc 44, 2) := by decide +kernel
theorem dX8_isSignAhead_18 : decode cX8_isSignAhead 18 = .ok (.invokevirtual 37, 3) := by decide +kernel
theorem dX8_isSignAhead_21 : decode cX8_isSignAhead 21 = .ok (.ifCond .ne 15, 3) := by decide +kernel
theorem dX8_isSignAhead_24 : decode cX8_isSignAhead 24 = .ok (.aload_n 0, 1) := by decide +kernel
theorem dX8_isSignAhead_25 : decode cX8_isSignAhead 25 = .ok (.getfield 9, 3) := by decide +kernel
theorem dX8_isSignAhead_28 : decode cX8_isSignAhead 28 = .ok (.ldc 86, 2) := by decide +kernel
theorem dX8_isSignAhead_30 : decode cX8_isSignAhead 30 = .ok (.invokevirtual 37, 3) := by decide +kernel
theorem dX8_isSignAhead_33 : decode cX8_isSignAhead 33 = .ok (.ifCond .eq 7, 3) := by decide +kernel
theorem dX8_isSignAhead_36 : decode cX8_isSignAhead 36 = .ok (.iconst 1, 1) := by decide +kernel
theorem dX8_isSignAhead_37 : decode cX8_isSignAhead 37 = .ok (.goto 4, 3) := by decide +kernel
theorem dX8_isSignAhead_40 : decode cX8_isSignAhead 40 = .ok (.iconst 0, 1) := by decide +kernel
theorem dX8_isSignAhead_41 : decode cX8_isSignAhead 41 = .ok (.ireturn, 1) := by decide +kernel
set_option maxRecDepth 100000 in
theorem sp_X8_isSignAhead (G : MG) (hG : (g_l G).stackTraces = false) (d : Nat) (hd : 5 ≤ d)   (σ : MsSt) (l0 : Nat) (h0 : ms_kd l0 = 9) : MsSpec G mX8_isSignAhead d 0 0 [.ref l0] σ (ms_ki σ) (f_X8_isSignAhead σ l0) := by
  refine ms_start (by decide +kernel) rfl rfl (Nat.le_of_ble_eq_true rfl) ?_
  show TrO G mX8_isSignAhead d 0 0 0 0 (ms_ki σ) 0 [(0, .ref l0)] [] σ ((f_X9_isWord σ (ms_rf l0 0) 601).bind fun v1 => if v1 = 0 then (f_X9_isWord σ (ms_rf l0 0) 602).bind fun v2 => if v2 = 0 then (f_X9_isWord σ (ms_rf l0 0) 603).bind fun v3 => if v3 = 0 then some 0 else some 1 else some 1 else some 1)
  refine tr_aload_n (i := 0) dX8_isSignAhead_0 rfl ?_
  refine tr_getR 8 h0 fl_X8_9 (by decide +kernel) dX8_isSignAhead_1 ?_
  refine tr_ldcs 1 (tx := "base") (by decide) (by decide +kernel) dX8_isSignAhead_4 ?_
  refine tr_c_i (ms_cV (rest := []) (al := [.ref 601]) 9 (sp_X9_isWord G hG (d - 1) (by omega) σ (ms_rf l0 0) 601 (rk_8_0 h0) (⟨by decide, by decide⟩)) (rk_8_0 h0) (by decide +kernel) kl_X8_37 fv_X9_isWord dX8_isSignAhead_6 (show _ = some 1 by decide +kernel) (by omega) (Nat.le_of_ble_eq_true rfl) (by decide) (by decide)) (fun v1 => ?_)
  refine tr_ifne (o := none) (tgt := 36) dX8_isSignAhead_9 (by decide) ?_ ?_
  · refine tr_iconst (v := 1) dX8_isSignAhead_36 (by decide +kernel) ?_
    refine tr_goto (tgt := 41) dX8_isSignAhead_37 (by decide) ?_
    exact tr_zret rfl (by decide +kernel) rfl (by decide) (by decide) dX8_isSignAhead_41
  · refine tr_aload_n (i := 0) dX8_isSignAhead_12 rfl ?_
    refine tr_getR 8 h0 fl_X8_9 (by decide +kernel) dX8_isSignAhead_13 ?_
    refine tr_ldcs 2 (tx := "mark") (by decide) (by decide +kernel) dX8_isSignAhead_16 ?_
    refine tr_c_i (ms_cV (rest := []) (al := [.ref 602]) 9 (sp_X9_isWord G hG (d - 1) (by omega) σ (ms_rf l0 0) 602 (rk_8_0 h0) (⟨by decide, by decide⟩)) (rk_8_0 h0) (by decide +kernel) kl_X8_37 fv_X9_isWord dX8_isSignAhead_18 (show _ = some 1 by decide +kernel) (by omega) (Nat.le_of_ble_eq_true rfl) (by decide) (by decide)) (fun v2 => ?_)
    refine tr_ifne (o := none) (tgt := 36) dX8_isSignAhead_21 (by decide) ?_ ?_
    · refine tr_iconst (v := 1) dX8_isSignAhead_36 (by decide +kernel) ?_
      refine tr_goto (tgt := 41) dX8_isSignAhead_37 (by decide) ?_
      exact tr_zret rfl (by decide +kernel) rfl (by decide) (by decide) dX8_isSignAhead_41
    · refine tr_aload_n (i := 0) dX8_isSignAhead_24 rfl ?_
      refine tr_getR 8 h0 fl_X8_9 (by decide +kernel) dX8_isSignAhead_25 ?_
      refine tr_ldcs 3 (tx := "pair") (by decide) (by decide +kernel) dX8_isSignAhead_28 ?_
      refine tr_c_i (ms_cV (rest := []) (al := [.ref 603]) 9 (sp_X9_isWord G hG (d - 1) (by omega) σ (ms_rf l0 0) 603 (rk_8_0 h0) (⟨by decide, by decide⟩)) (rk_8_0 h0) (by decide +kernel) kl_X8_37 fv_X9_isWord dX8_isSignAhead_30 (show _ = some 1 by decide +kernel) (by omega) (Nat.le_of_ble_eq_true rfl) (by decide) (by decide)) (fun v3 => ?_)
      refine tr_ifeq (o := none) (tgt := 40) dX8_isSignAhead_33 (by decide) ?_ ?_
      · refine tr_iconst (v := 0) dX8_isSignAhead_40 (by decide +kernel) ?_
        exact tr_zret rfl (by decide +kernel) rfl (by decide) (by decide) dX8_isSignAhead_41
      · refine tr_iconst (v := 1) dX8_isSignAhead_36 (by decide +kernel) ?_
        refine tr_goto (tgt := 41) dX8_isSignAhead_37 (by decide) ?_
        exact tr_zret rfl (by decide +kernel) rfl (by decide) (by decide) dX8_isSignAhead_41
theorem dX8_takeName_0 : decode cX8_takeName 0 = .ok (.aload_n 0, 1) := by decide +kernel
theorem dX8_takeName_1 : decode cX8_takeName 1 = .ok (.getfield 9, 3) := by decide +kernel
theorem dX8_takeName_4 : decode cX8_takeName 4 = .ok (.invokevirtual 104, 3) := by decide +kernel
theorem dX8_takeName_7 : decode cX8_takeName 7 = .ok (.istore_n 1, 1) := by decide +kernel
theorem dX8_takeName_8 : decode cX8_takeName 8 = .ok (.aload_n 0, 1) := by decide +kernel
theorem dX8_takeName_9 : decode cX8_takeName 9 = .ok (.getfield 9, 3) := by decide +kernel
theorem dX8_takeName_12 : decode cX8_takeName 12 = .ok (.invokevirtual 107, 3) := by decide +kernel
theorem dX8_takeName_15 : decode cX8_takeName 15 = .ok (.ifCond .ne 14, 3) := by decide +kernel
theorem dX8_takeName_18 : decode cX8_takeName 18 = .ok (.aload_n 0, 1) := by decide +kernel
theorem dX8_takeName_19 : decode cX8_takeName 19 = .ok (.getfield 9, 3) := by decide +kernel
theorem dX8_takeName_22 : decode cX8_takeName 22 = .ok (.iconst 1, 1) := by decide +kernel
theorem dX8_takeName_23 : decode cX8_takeName 23 = .ok (.invokevirtual 52, 3) := by decide +kernel
theorem dX8_takeName_26 : decode cX8_takeName 26 = .ok (.goto 23, 3) := by decide +kernel
theorem dX8_takeName_29 : decode cX8_takeName 29 = .ok (.aload_n 0, 1) := by decide +kernel
theorem dX8_takeName_30 : decode cX8_takeName 30 = .ok (.getfield 18, 3) := by decide +kernel
theorem dX8_takeName_33 : decode cX8_takeName 33 = .ok (.iload_n 1, 1) := by decide +kernel
theorem dX8_takeName_34 : decode cX8_takeName 34 = .ok (.invokevirtual 110, 3) := by decide +kernel
theorem dX8_takeName_37 : decode cX8_takeName 37 = .ok (.iconst (-1), 1) := by decide +kernel
theorem dX8_takeName_38 : decode cX8_takeName 38 = .ok (.if_icmp .eq 11, 3) := by decide +kernel
theorem dX8_takeName_41 : decode cX8_takeName 41 = .ok (.aload_n 0, 1) := by decide +kernel
theorem dX8_takeName_42 : decode cX8_takeName 42 = .ok (.getfield 9, 3) := by decide +kernel
theorem dX8_takeName_45 : decode cX8_takeName 45 = .ok (.iconst 3, 1) := by decide +kernel
theorem dX8_takeName_46 : decode cX8_takeName 46 = .ok (.invokevirtual 52, 3) := by decide +kernel
theorem dX8_takeName_49 : decode cX8_takeName 49 = .ok (.aload_n 0, 1) := by decide +kernel
theorem dX8_takeName_50 : decode cX8_takeName 50 = .ok (.getfield 9, 3) := by decide +kernel
theorem dX8_takeName_53 : decode cX8_takeName 53 = .ok (.invokevirtual 62, 3) := by decide +kernel
theorem dX8_takeName_56 : decode cX8_takeName 56 = .ok (.iload_n 1, 1) := by decide +kernel
theorem dX8_takeName_57 : decode cX8_takeName 57 = .ok (.ireturn, 1) := by decide +kernel
set_option maxRecDepth 100000 in
theorem sp_X8_takeName (G : MG) (hG : (g_l G).stackTraces = false) (d : Nat) (hd : 6 ≤ d)   (σ : MsSt) (l0 : Nat) (h0 : ms_kd l0 = 9) : MsSpec G mX8_takeName d 0 0 [.ref l0] σ ms_wi (f_X8_takeName σ l0) := by
  refine ms_start (by decide +kernel) rfl rfl (Nat.le_of_ble_eq_true rfl) ?_
  show TrO G mX8_takeName d 0 0 0 0 ms_wi 0 [(0, .ref l0)] [] σ ((f_X9_packedName σ (ms_rf l0 0)).bind fun v1 => (f_X9_isName σ (ms_rf l0 0)).bind fun v2 => if v2 = 0 then (f_X9_fail σ (ms_rf l0 0) 1).bind fun s7 => (f_X9_advance s7 (ms_rf l0 0)).bind fun s8 => some (v1, s8) else (f_X6_findName σ (ms_rf l0 1) v1).bind fun v3 => if v3 = (-1) then (f_X9_advance σ (ms_rf l0 0)).bind fun s4 => some (v1, s4) else (f_X9_fail σ (ms_rf l0 0) 3).bind fun s5 => (f_X9_advance s5 (ms_rf l0 0)).bind fun s6 => some (v1, s6))
  refine tr_aload_n (i := 0) dX8_takeName_0 rfl ?_
  refine tr_getR 8 h0 fl_X8_9 (by decide +kernel) dX8_takeName_1 ?_
  refine tr_c_i (ms_cV (rest := []) (al := []) 9 (sp_X9_packedName G hG (d - 1) (by omega) σ (ms_rf l0 0) (rk_8_0 h0)) (rk_8_0 h0) (by decide +kernel) kl_X8_104 fv_X9_packedName dX8_takeName_4 (show _ = some 0 by decide +kernel) (by omega) (Nat.le_of_ble_eq_true rfl) (by decide) (by decide)) (fun v1 => ?_)
  refine tr_istore_n (lv' := [(0, .ref l0), (1, .int v1)]) [1, 0] dX8_takeName_7 (by decide) rfl ?_
  refine tr_aload_n (i := 0) dX8_takeName_8 rfl ?_
  refine tr_getR 8 h0 fl_X8_9 (by decide +kernel) dX8_takeName_9 ?_
  refine tr_c_i (ms_cV (rest := []) (al := []) 9 (sp_X9_isName G hG (d - 1) (by omega) σ (ms_rf l0 0) (rk_8_0 h0)) (rk_8_0 h0) (by decide +kernel) kl_X8_107 fv_X9_isName dX8_takeName_12 (show _ = some 0 by decide +kernel) (by omega) (Nat.le_of_ble_eq_true rfl) (by decide) (by decide)) (fun v2 => ?_)
  refine tr_ifne (o := none) (tgt := 29) dX8_takeName_15 (by decide) ?_ ?_
  · refine tr_aload_n (i := 0) dX8_takeName_29 rfl ?_
    refine tr_getR 8 h0 fl_X8_18 (by decide +kernel) dX8_takeName_30 ?_
    refine tr_iload_n (i := 1) dX8_takeName_33 rfl ?_
    refine tr_c_i (ms_cV (rest := []) (al := [.int v1]) 6 (sp_X6_findName G hG (d - 1) (by omega) σ (ms_rf l0 1) v1 (rk_8_1 h0)) (rk_8_1 h0) (by decide +kernel) kl_X8_110 fv_X6_findName dX8_takeName_34 (show _ = some 1 by decide +kernel) (by omega) (Nat.le_of_ble_eq_true rfl) (by decide) (by decide)) (fun v3 => ?_)
    refine tr_iconst (v := (-1)) dX8_takeName_37 (by decide +kernel) ?_
    refine tr_iceq (o := none) (tgt := 49) dX8_takeName_38 (by decide) ?_ ?_
    · refine tr_aload_n (i := 0) dX8_takeName_49 rfl ?_
      refine tr_getR 8 h0 fl_X8_9 (by decide +kernel) dX8_takeName_50 ?_
      refine tr_c_wv (ms_cV (rest := []) (al := []) 9 (sp_X9_advance G hG (d - 1) (by omega) σ (ms_rf l0 0) (rk_8_0 h0)) (rk_8_0 h0) (by decide +kernel) kl_X8_62 fv_X9_advance dX8_takeName_53 (show _ = some 0 by decide +kernel) (by omega) (Nat.le_of_ble_eq_true rfl) (by decide) (by decide)) (fun s4 => ?_)
      refine tr_iload_n (i := 1) dX8_takeName_56 rfl ?_
      exact tr_iret rfl rfl (by decide) (by decide) dX8_takeName_57
    · refine tr_aload_n (i := 0) dX8_takeName_41 rfl ?_
      refine tr_getR 8 h0 fl_X8_9 (by decide +kernel) dX8_takeName_42 ?_
      refine tr_iconst (v := 3) dX8_takeName_45 (by decide +kernel) ?_
      refine tr_c_wv (ms_cV (rest := []) (al := [.int 3]) 9 (sp_X9_fail G hG (d - 1) (by omega) σ (ms_rf l0 0) 3 (rk_8_0 h0)) (rk_8_0 h0) (by decide +kernel) kl_X8_52 fv_X9_fail dX8_takeName_46 (show _ = some 1 by decide +kernel) (by omega) (Nat.le_of_ble_eq_true rfl) (by decide) (by decide)) (fun s5 => ?_)
      refine tr_aload_n (i := 0) dX8_takeName_49 rfl ?_
      refine tr_getR 8 h0 fl_X8_9 (by decide +kernel) dX8_takeName_50 ?_
      refine tr_c_wv (ms_cV (rest := []) (al := []) 9 (sp_X9_advance G hG (d - 1) (by omega) s5 (ms_rf l0 0) (rk_8_0 h0)) (rk_8_0 h0) (by decide +kernel) kl_X8_62 fv_X9_advance dX8_takeName_53 (show _ = some 0 by decide +kernel) (by omega) (Nat.le_of_ble_eq_true rfl) (by decide) (by decide)) (fun s6 => ?_)
      refine tr_iload_n (i := 1) dX8_takeName_56 rfl ?_
      exact tr_iret rfl rfl (by decide) (by decide) dX8_takeName_57
  · refine tr_aload_n (i := 0) dX8_takeName_18 rfl ?_
    refine tr_getR 8 h0 fl_X8_9 (by decide +kernel) dX8_takeName_19 ?_
    refine tr_iconst (v := 1) dX8_takeName_22 (by decide +kernel) ?_
    refine tr_c_wv (ms_cV (rest := []) (al := [.int 1]) 9 (sp_X9_fail G hG (d - 1) (by omega) σ (ms_rf l0 0) 1 (rk_8_0 h0)) (rk_8_0 h0) (by decide +kernel) kl_X8_52 fv_X9_fail dX8_takeName_23 (show _ = some 1 by decide +kernel) (by omega) (Nat.le_of_ble_eq_true rfl) (by decide) (by decide)) (fun s7 => ?_)
    refine tr_goto (tgt := 49) dX8_takeName_26 (by decide) ?_
    refine tr_aload_n (i := 0) dX8_takeName_49 rfl ?_
    refine tr_getR 8 h0 fl_X8_9 (by decide +kernel) dX8_takeName_50 ?_
    refine tr_c_wv (ms_cV (rest := []) (al := []) 9 (sp_X9_advance G hG (d - 1) (by omega) s7 (ms_rf l0 0) (rk_8_0 h0)) (rk_8_0 h0) (by decide +kernel) kl_X8_62 fv_X9_advance dX8_takeName_53 (show _ = some 0 by decide +kernel) (by omega) (Nat.le_of_ble_eq_true rfl) (by decide) (by decide)) (fun s8 => ?_)
    refine tr_iload_n (i := 1) dX8_takeName_56 rfl ?_
    exact tr_iret rfl rfl (by decide) (by decide) dX8_takeName_57
theorem dX8_beginSign_0 : decode cX8_beginSign 0 = .ok (.aload_n 0, 1) := by decide +kernel
theorem dX8_beginSign_1 : decode cX8_beginSign 1 = .ok (.getfield 9, 3) := by decide +kernel
theorem dX8_beginSign_4 : decode cX8_beginSign 4 = .ok (.invokevirtual 62, 3) := by decide +kernel
theorem dX8_beginSign_7 : decode cX8_beginSign 7 = .ok (.aload_n 0, 1) := by decide +kernel
theorem dX8_beginSign_8 : decode cX8_beginSign 8 = .ok (.getfield 18, 3) := by decide +kernel
theorem dX8_beginSign_11 : decode cX8_beginSign 11 = .ok (.aload_n 0, 1) := by decide +kernel
theorem dX8_beginSign_12 : decode cX8_beginSign 12 = .ok (.getfield 18, 3) := by decide +kernel
theorem dX8_beginSign_15 : decode cX8_beginSign 15 = .ok (.getfield 88, 3) := by decide +kernel
theorem dX8_beginSign_18 : decode cX8_beginSign 18 = .ok (.invokevirtual 91, 3) := by decide +kernel
theorem dX8_beginSign_21 : decode cX8_beginSign 21 = .ok (.astore_n 2, 1) := by decide +kernel
theorem dX8_beginSign_22 : decode cX8_beginSign 22 = .ok (.aload_n 2, 1) := by decide +kernel
theorem dX8_beginSign_23 : decode cX8_beginSign 23 = .ok (.iload_n 1, 1) := by decide +kernel
theorem dX8_beginSign_24 : decode cX8_beginSign 24 = .ok (.aload_n 0, 1) := by decide +kernel
theorem dX8_beginSign_25 : decode cX8_beginSign 25 = .ok (.invokevirtual 95, 3) := by decide +kernel
theorem dX8_beginSign_28 : decode cX8_beginSign 28 = .ok (.invokevirtual 99, 3) := by decide +kernel
theorem dX8_beginSign_31 : decode cX8_beginSign 31 = .ok (.aload_n 2, 1) := by decide +kernel
theorem dX8_beginSign_32 : decode cX8_beginSign 32 = .ok (.areturn, 1) := by decide +kernel
set_option maxRecDepth 100000 in
theorem sp_X8_beginSign (G : MG) (hG : (g_l G).stackTraces = false) (d : Nat) (hd : 7 ≤ d)   (σ : MsSt) (l0 : Nat) (l1 : Int32) (h0 : ms_kd l0 = 9) : MsSpec G mX8_beginSign d 0 0 [.ref l0, .int l1] σ ms_wa (f_X8_beginSign σ l0 l1) := by
  refine ms_start (by decide +kernel) rfl rfl (Nat.le_of_ble_eq_true rfl) ?_
  show TrO G mX8_beginSign d 0 0 0 0 ms_wa 0 [(0, .ref l0), (1, .int l1)] [] σ ((f_X9_advance σ (ms_rf l0 0)).bind fun s1 => (f_X6_told s1 (ms_rf l0 1) (ms_i s1 (ms_rf l0 1) 4)).bind fun v2 => ms_b2 (f_X8_takeName s1 l0) fun v3 s4 => (f_X7_begin s4 v2 l1 v3).bind fun s5 => some (v2, s5))
  refine tr_aload_n (i := 0) dX8_beginSign_0 rfl ?_
  refine tr_getR 8 h0 fl_X8_9 (by decide +kernel) dX8_beginSign_1 ?_
  refine tr_c_wv (ms_cV (rest := []) (al := []) 9 (sp_X9_advance G hG (d - 1) (by omega) σ (ms_rf l0 0) (rk_8_0 h0)) (rk_8_0 h0) (by decide +kernel) kl_X8_62 fv_X9_advance dX8_beginSign_4 (show _ = some 0 by decide +kernel) (by omega) (Nat.le_of_ble_eq_true rfl) (by decide) (by decide)) (fun s1 => ?_)
  refine tr_aload_n (i := 0) dX8_beginSign_7 rfl ?_
  refine tr_getR 8 h0 fl_X8_18 (by decide +kernel) dX8_beginSign_8 ?_
  refine tr_aload_n (i := 0) dX8_beginSign_11 rfl ?_
  refine tr_getR 8 h0 fl_X8_18 (by decide +kernel) dX8_beginSign_12 ?_
  refine tr_getI 6 (rk_8_1 h0) fl_X8_88 (by decide +kernel) dX8_beginSign_15 ?_
  refine tr_c_a (ms_cV (rest := []) (al := [.int (ms_i s1 (ms_rf l0 1) 4)]) 6 (sp_X6_told G hG (d - 1) (by omega) s1 (ms_rf l0 1) (ms_i s1 (ms_rf l0 1) 4) (rk_8_1 h0)) (rk_8_1 h0) (by decide +kernel) kl_X8_91 fv_X6_told dX8_beginSign_18 (show _ = some 1 by decide +kernel) (by omega) (Nat.le_of_ble_eq_true rfl) (by decide) (by decide)) (fun v2 e_v2 => ?_)
  refine tr_astore_n (lv' := [(0, .ref l0), (1, .int l1), (2, .ref v2)]) [1, 2, 0] dX8_beginSign_21 (by decide) rfl ?_
  refine tr_aload_n (i := 2) dX8_beginSign_22 rfl ?_
  refine tr_iload_n (i := 1) dX8_beginSign_23 rfl ?_
  refine tr_aload_n (i := 0) dX8_beginSign_24 rfl ?_
  refine tr_d_wi (ms_cV (rest := [.int l1, .ref v2]) (al := []) 8 (sp_X8_takeName G hG (d - 1) (by omega) s1 l0 h0) h0 (by decide +kernel) kl_X8_95 fv_X8_takeName dX8_beginSign_25 (show _ = some 0 by decide +kernel) (by omega) (Nat.le_of_ble_eq_true rfl) (by decide) (by decide)) (fun v3 s4 => ?_)
  refine tr_c_wv (ms_cV (rest := []) (al := [.int l1, .int v3]) 7 (sp_X7_begin G hG (d - 1) (by omega) s4 v2 l1 v3 (ra_X6_told (rk_8_1 h0) e_v2)) (ra_X6_told (rk_8_1 h0) e_v2) (by decide +kernel) kl_X8_99 fv_X7_begin dX8_beginSign_28 (show _ = some 2 by decide +kernel) (by omega) (Nat.le_of_ble_eq_true rfl) (by decide) (by decide)) (fun s5 => ?_)
  refine tr_aload_n (i := 2) dX8_beginSign_31 rfl ?_
  exact tr_aret rfl rfl (by decide) (by decide) dX8_beginSign_32
theorem dX8_endSign_0 : decode cX8_endSign 0 = .ok (.aload_n 0, 1) := by decide +kernel
theorem dX8_endSign_1 : decode cX8_endSign 1 = .ok (.getfield 9, 3) := by decide +kernel
theorem dX8_endSign_4 : decode cX8_endSign 4 = .ok (.bipush 59, 2) := by decide +kernel
theorem dX8_endSign_6 : decode cX8_endSign 6 = .ok (.invokevirtual 76, 3) := by decide +kernel
theorem dX8_endSign_9 : decode cX8_endSign 9 = .ok (.aload_n 0, 1) := by decide +kernel
theorem dX8_endSign_10 : decode cX8_endSign 10 = .ok (.getfield 18, 3) := by decide +kernel
theorem dX8_endSign_13 : decode cX8_endSign 13 = .ok (.dup, 1) := by decide +kernel
theorem dX8_endSign_14 : decode cX8_endSign 14 = .ok (.getfield 88, 3) := by decide +kernel
theorem dX8_endSign_17 : decode cX8_endSign 17 = .ok (.iconst 1, 1) := by decide +kernel
theorem dX8_endSign_18 : decode cX8_endSign 18 = .ok (.iadd, 1) := by decide +kernel
theorem dX8_endSign_19 : decode cX8_endSign 19 = .ok (.putfield 88, 3) := by decide +kernel
theorem dX8_endSign_22 : decode cX8_endSign 22 = .ok (.return_, 1) := by decide +kernel
set_option maxRecDepth 100000 in
theorem sp_X8_endSign (G : MG) (hG : (g_l G).stackTraces = false) (d : Nat) (hd : 3 ≤ d)   (σ : MsSt) (l0 : Nat) (h0 : ms_kd l0 = 9) : MsSpec G mX8_endSign d 0 0 [.ref l0] σ ms_wv (f_X8_endSign σ l0) := by
  refine ms_start (by decide +kernel) rfl rfl (Nat.le_of_ble_eq_true rfl) ?_
  show TrO G mX8_endSign d 0 0 0 0 ms_wv 0 [(0, .ref l0)] [] σ ((f_X9_takeSymbol σ (ms_rf l0 0) 59).bind fun s1 => ms_nm (ms_si s1 (ms_rf l0 1) 4 ((ms_i s1 (ms_rf l0 1) 4) + 1)) fun s2 => some s2)
  refine tr_aload_n (i := 0) dX8_endSign_0 rfl ?_
  refine tr_getR 8 h0 fl_X8_9 (by decide +kernel) dX8_endSign_1 ?_
  refine tr_bipush (v := 59) dX8_endSign_4 (by decide +kernel) ?_
  refine tr_c_wv (ms_cV (rest := []) (al := [.int 59]) 9 (sp_X9_takeSymbol G hG (d - 1) (by omega) σ (ms_rf l0 0) 59 (rk_8_0 h0)) (rk_8_0 h0) (by decide +kernel) kl_X8_76 fv_X9_takeSymbol dX8_endSign_6 (show _ = some 1 by decide +kernel) (by omega) (Nat.le_of_ble_eq_true rfl) (by decide) (by decide)) (fun s1 => ?_)
  refine tr_aload_n (i := 0) dX8_endSign_9 rfl ?_
  refine tr_getR 8 h0 fl_X8_18 (by decide +kernel) dX8_endSign_10 ?_
  refine tr_dup dX8_endSign_13 rfl ?_
  refine tr_getI 6 (rk_8_1 h0) fl_X8_88 (by decide +kernel) dX8_endSign_14 ?_
  refine tr_iconst (v := 1) dX8_endSign_17 (by decide +kernel) ?_
  refine tr_iadd dX8_endSign_18 ?_
  refine tr_putI 6 (rk_8_1 h0) fl_X8_88 (by decide +kernel) dX8_endSign_19 ?_
  refine ms_ltS (fun s2 => ?_)
  exact tr_vret rfl rfl (by decide) (by decide) dX8_endSign_22
theorem dX8_readBase_0 : decode cX8_readBase 0 = .ok (.aload_n 0, 1) := by decide +kernel
theorem dX8_readBase_1 : decode cX8_readBase 1 = .ok (.iconst 0, 1) := by decide +kernel
theorem dX8_readBase_2 : decode cX8_readBase 2 = .ok (.invokevirtual 114, 3) := by decide +kernel
theorem dX8_readBase_5 : decode cX8_readBase 5 = .ok (.astore_n 1, 1) := by decide +kernel
theorem dX8_readBase_6 : decode cX8_readBase 6 = .ok (.aload_n 1, 1) := by decide +kernel
theorem dX8_readBase_7 : decode cX8_readBase 7 = .ok (.aload_n 0, 1) := by decide +kernel
theorem dX8_readBase_8 : decode cX8_readBase 8 = .ok (.getfield 9, 3) := by decide +kernel
theorem dX8_readBase_11 : decode cX8_readBase 11 = .ok (.iconst 1, 1) := by decide +kernel
theorem dX8_readBase_12 : decode cX8_readBase 12 = .ok (.bipush 20, 2) := by decide +kernel
theorem dX8_readBase_14 : decode cX8_readBase 14 = .ok (.invokevirtual 69, 3) := by decide +kernel
theorem dX8_readBase_17 : decode cX8_readBase 17 = .ok (.putfield 117, 3) := by decide +kernel
theorem dX8_readBase_20 : decode cX8_readBase 20 = .ok (.aload_n 1, 1) := by decide +kernel
theorem dX8_readBase_21 : decode cX8_readBase 21 = .ok (.aload_n 0, 1) := by decide +kernel
theorem dX8_readBase_22 : decode cX8_readBase 22 = .ok (.getfield 9, 3) := by decide +kernel
theorem dX8_readBase_25 : decode cX8_readBase 25 = .ok (.iconst 1, 1) := by decide +kernel
theorem dX8_readBase_26 : decode cX8_readBase 26 = .ok (.bipush 20, 2) := by decide +kernel
theorem dX8_readBase_28 : decode cX8_readBase 28 = .ok (.invokevirtual 69, 3) := by decide +kernel
theorem dX8_readBase_31 : decode cX8_readBase 31 = .ok (.putfield 120, 3) := by decide +kernel
theorem dX8_readBase_34 : decode cX8_readBase 34 = .ok (.aload_n 1, 1) := by decide +kernel
theorem dX8_readBase_35 : decode cX8_readBase 35 = .ok (.aload_n 0, 1) := by decide +kernel
theorem dX8_readBase_36 : decode cX8_readBase 36 = .ok (.getfield 9, 3) := by decide +kernel
theorem dX8_readBase_39 : decode cX8_readBase 39 = .ok (.iconst 0, 1) := by decide +kernel
theorem dX8_readBase_40 : decode cX8_readBase 40 = .ok (.bipush 20, 2) := by decide +kernel
theorem dX8_readBase_42 : decode cX8_readBase 42 = .ok (.invokevirtual 69, 3) := by decide +kernel
theorem dX8_readBase_45 : decode cX8_readBase 45 = .ok (.putfield 123, 3) := by decide +kernel
theorem dX8_readBase_48 : decode cX8_readBase 48 = .ok (.aload_n 1, 1) := by decide +kernel
theorem dX8_readBase_49 : decode cX8_readBase 49 = .ok (.aload_n 0, 1) := by decide +kernel
theorem dX8_readBase_50 : decode cX8_readBase 50 = .ok (.getfield 9, 3) := by decide +kernel
theorem dX8_readBase_53 : decode cX8_readBase 53 = .ok (.iconst 0, 1) := by decide +kernel
theorem dX8_readBase_54 : decode cX8_readBase 54 = .ok (.bipush 20, 2) := by decide +kernel
theorem dX8_readBase_56 : decode cX8_readBase 56 = .ok (.invokevirtual 69, 3) := by decide +kernel
theorem dX8_readBase_59 : decode cX8_readBase 59 = .ok (.putfield 126, 3) := by decide +kernel
theorem dX8_readBase_62 : decode cX8_readBase 62 = .ok (.aload_n 1, 1) := by decide +kernel
theorem dX8_readBase_63 : decode cX8_readBase 63 = .ok (.aload_n 0, 1) := by decide +kernel
theorem dX8_readBase_64 : decode cX8_readBase 64 = .ok (.getfield 18, 3) := by decide +kernel
theorem dX8_readBase_67 : decode cX8_readBase 67 = .ok (.getfield 88, 3) := by decide +kernel
theorem dX8_readBase_70 : decode cX8_readBase 70 = .ok (.invokevirtual 129, 3) := by decide +kernel
theorem dX8_readBase_73 : decode cX8_readBase 73 = .ok (.aload_n 0, 1) := by decide +kernel
theorem dX8_readBase_74 : decode cX8_readBase 74 = .ok (.invokevirtual 132, 3) := by decide +kernel
theorem dX8_readBase_77 : decode cX8_readBase 77 = .ok (.return_, 1) := by decide +kernel
set_option maxRecDepth 100000 in
theorem sp_X8_readBase (G : MG) (hG : (g_l G).stackTraces = false) (d : Nat) (hd : 8 ≤ d)   (σ : MsSt) (l0 : Nat) (h0 : ms_kd l0 = 9) : MsSpec G mX8_readBase d 0 0 [.ref l0] σ ms_wv (f_X8_readBase σ l0) := by
  refine ms_start (by decide +kernel) rfl rfl (Nat.le_of_ble_eq_true rfl) ?_
  show TrO G mX8_readBase d 0 0 0 0 ms_wv 0 [(0, .ref l0)] [] σ (ms_b2 (f_X8_beginSign σ l0 0) fun v1 s2 => ms_b2 (f_X9_takeNumber s2 (ms_rf l0 0) 1 20) fun v3 s4 => ms_nm (ms_si s4 v1 6 v3) fun s5 => ms_b2 (f_X9_takeNumber s5 (ms_rf l0 0) 1 20) fun v6 s7 => ms_nm (ms_si s7 v1 7 v6) fun s8 => ms_b2 (f_X9_takeNumber s8 (ms_rf l0 0) 0 20) fun v9 s10 => ms_nm (ms_si s10 v1 8 v9) fun s11 => ms_b2 (f_X9_takeNumber s11 (ms_rf l0 0) 0 20) fun v12 s13 => ms_nm (ms_si s13 v1 9 v12) fun s14 => (f_X7_addPart s14 v1 (ms_i s14 (ms_rf l0 1) 4)).bind fun s15 => (f_X8_endSign s15 l0).bind fun s16 => some s16)
  refine tr_aload_n (i := 0) dX8_readBase_0 rfl ?_
  refine tr_iconst (v := 0) dX8_readBase_1 (by decide +kernel) ?_
  refine tr_d_wa (ms_cV (rest := []) (al := [.int 0]) 8 (sp_X8_beginSign G hG (d - 1) (by omega) σ l0 0 h0) h0 (by decide +kernel) kl_X8_114 fv_X8_beginSign dX8_readBase_2 (show _ = some 1 by decide +kernel) (by omega) (Nat.le_of_ble_eq_true rfl) (by decide) (by decide)) (fun v1 s2 e_v1 => ?_)
  refine tr_astore_n (lv' := [(0, .ref l0), (1, .ref v1)]) [1, 0] dX8_readBase_5 (by decide) rfl ?_
  refine tr_aload_n (i := 1) dX8_readBase_6 rfl ?_
  refine tr_aload_n (i := 0) dX8_readBase_7 rfl ?_
  refine tr_getR 8 h0 fl_X8_9 (by decide +kernel) dX8_readBase_8 ?_
  refine tr_iconst (v := 1) dX8_readBase_11 (by decide +kernel) ?_
  refine tr_bipush (v := 20) dX8_readBase_12 (by decide +kernel) ?_
  refine tr_d_wi (ms_cV (rest := [.ref v1]) (al := [.int 1, .int 20]) 9 (sp_X9_takeNumber G hG (d - 1) (by omega) s2 (ms_rf l0 0) 1 20 (rk_8_0 h0)) (rk_8_0 h0) (by decide +kernel) kl_X8_69 fv_X9_takeNumber dX8_readBase_14 (show _ = some 2 by decide +kernel) (by omega) (Nat.le_of_ble_eq_true rfl) (by decide) (by decide)) (fun v3 s4 => ?_)
  refine tr_putI 7 (ra_X8_beginSign h0 e_v1) fl_X8_117 (by decide +kernel) dX8_readBase_17 ?_
  refine ms_ltS (fun s5 => ?_)
  refine tr_aload_n (i := 1) dX8_readBase_20 rfl ?_
  refine tr_aload_n (i := 0) dX8_readBase_21 rfl ?_
  refine tr_getR 8 h0 fl_X8_9 (by decide +kernel) dX8_readBase_22 ?_
  refine tr_iconst (v := 1) dX8_readBase_25 (by decide +kernel) ?_
  refine tr_bipush (v := 20) dX8_readBase_26 (by decide +kernel) ?_
  refine tr_d_wi (ms_cV (rest := [.ref v1]) (al := [.int 1, .int 20]) 9 (sp_X9_takeNumber G hG (d - 1) (by omega) s5 (ms_rf l0 0) 1 20 (rk_8_0 h0)) (rk_8_0 h0) (by decide +kernel) kl_X8_69 fv_X9_takeNumber dX8_readBase_28 (show _ = some 2 by decide +kernel) (by omega) (Nat.le_of_ble_eq_true rfl) (by decide) (by decide)) (fun v6 s7 => ?_)
  refine tr_putI 7 (ra_X8_beginSign h0 e_v1) fl_X8_120 (by decide +kernel) dX8_readBase_31 ?_
  refine ms_ltS (fun s8 => ?_)
  refine tr_aload_n (i := 1) dX8_readBase_34 rfl ?_
  refine tr_aload_n (i := 0) dX8_readBase_35 rfl ?_
  refine tr_getR 8 h0 fl_X8_9 (by decide +kernel) dX8_readBase_36 ?_
  refine tr_iconst (v := 0) dX8_readBase_39 (by decide +kernel) ?_
  refine tr_bipush (v := 20) dX8_readBase_40 (by decide +kernel) ?_
  refine tr_d_wi (ms_cV (rest := [.ref v1]) (al := [.int 0, .int 20]) 9 (sp_X9_takeNumber G hG (d - 1) (by omega) s8 (ms_rf l0 0) 0 20 (rk_8_0 h0)) (rk_8_0 h0) (by decide +kernel) kl_X8_69 fv_X9_takeNumber dX8_readBase_42 (show _ = some 2 by decide +kernel) (by omega) (Nat.le_of_ble_eq_true rfl) (by decide) (by decide)) (fun v9 s10 => ?_)
  refine tr_putI 7 (ra_X8_beginSign h0 e_v1) fl_X8_123 (by decide +kernel) dX8_readBase_45 ?_
  refine ms_ltS (fun s11 => ?_)
  refine tr_aload_n (i := 1) dX8_readBase_48 rfl ?_
  refine tr_aload_n (i := 0) dX8_readBase_49 rfl ?_
  refine tr_getR 8 h0 fl_X8_9 (by decide +kernel) dX8_readBase_50 ?_
  refine tr_iconst (v := 0) dX8_readBase_53 (by decide +kernel) ?_
  refine tr_bipush (v := 20) dX8_readBase_54 (by decide +kernel) ?_
  refine tr_d_wi (ms_cV (rest := [.ref v1]) (al := [.int 0, .int 20]) 9 (sp_X9_takeNumber G hG (d - 1) (by omega) s11 (ms_rf l0 0) 0 20 (rk_8_0 h0)) (rk_8_0 h0) (by decide +kernel) kl_X8_69 fv_X9_takeNumber dX8_readBase_56 (show _ = some 2 by decide +kernel) (by omega) (Nat.le_of_ble_eq_true rfl) (by decide) (by decide)) (fun v12 s13 => ?_)
  refine tr_putI 7 (ra_X8_beginSign h0 e_v1) fl_X8_126 (by decide +kernel) dX8_readBase_59 ?_
  refine ms_ltS (fun s14 => ?_)
  refine tr_aload_n (i := 1) dX8_readBase_62 rfl ?_
  refine tr_aload_n (i := 0) dX8_readBase_63 rfl ?_
  refine tr_getR 8 h0 fl_X8_18 (by decide +kernel) dX8_readBase_64 ?_
  refine tr_getI 6 (rk_8_1 h0) fl_X8_88 (by decide +kernel) dX8_readBase_67 ?_
  refine tr_c_wv (ms_cV (rest := []) (al := [.int (ms_i s14 (ms_rf l0 1) 4)]) 7 (sp_X7_addPart G hG (d - 1) (by omega) s14 v1 (ms_i s14 (ms_rf l0 1) 4) (ra_X8_beginSign h0 e_v1)) (ra_X8_beginSign h0 e_v1) (by decide +kernel) kl_X8_129 fv_X7_addPart dX8_readBase_70 (show _ = some 1 by decide +kernel) (by omega) (Nat.le_of_ble_eq_true rfl) (by decide) (by decide)) (fun s15 => ?_)
  refine tr_aload_n (i := 0) dX8_readBase_73 rfl ?_
  refine tr_c_wv (ms_cV (rest := []) (al := []) 8 (sp_X8_endSign G hG (d - 1) (by omega) s15 l0 h0) h0 (by decide +kernel) kl_X8_132 fv_X8_endSign dX8_readBase_74 (show _ = some 0 by decide +kernel) (by omega) (Nat.le_of_ble_eq_true rfl) (by decide) (by decide)) (fun s16 => ?_)
  exact tr_vret rfl rfl (by decide) (by decide) dX8_readBase_77
theorem dX8_takeSide_0 : decode cX8_takeSide 0 = .ok (.aload_n 0, 1) := by decide +kernel
theorem dX8_takeSide_1 : decode cX8_takeSide 1 = .ok (.getfield 9, 3) := by decide +kernel
theorem dX8_takeSide_4 : decode cX8_takeSide 4 = .ok (.ldc 147, 2) := by decide +kernel
theorem dX8_takeSide_6 : decode cX8_takeSide 6 = .ok (.invokevirtual 37, 3) := by decide +kernel
theorem dX8_takeSide_9 : decode cX8_takeSide 9 = .ok (.ifCond .eq 7, 3) := by decide +kernel
theorem dX8_takeSide_12 : decode cX8_takeSide 12 = .ok (.iconst 0, 1) := by decide +kernel
theorem dX8_takeSide_13 : decode cX8_takeSide 13 = .ok (.goto 36, 3) := by decide +kernel
theorem dX8_takeSide_16 : decode cX8_takeSide 16 = .ok (.aload_n 0, 1) := by decide +kernel
theorem dX8_takeSide_17 : decode cX8_takeSide 17 = .ok (.getfield 9, 3) := by decide +kernel
theorem dX8_takeSide_20 : decode cX8_takeSide 20 = .ok (.ldc 149, 2) := by decide +kernel
theorem dX8_takeSide_22 : decode cX8_takeSide 22 = .ok (.invokevirtual 37, 3) := by decide +kernel
theorem dX8_takeSide_25 : decode cX8_takeSide 25 = .ok (.ifCond .eq 7, 3) := by decide +kernel
theorem dX8_takeSide_28 : decode cX8_takeSide 28 = .ok (.iconst 1, 1) := by decide +kernel
theorem dX8_takeSide_29 : decode cX8_takeSide 29 = .ok (.goto 20, 3) := by decide +kernel
theorem dX8_takeSide_32 : decode cX8_takeSide 32 = .ok (.aload_n 0, 1) := by decide +kernel
theorem dX8_takeSide_33 : decode cX8_takeSide 33 = .ok (.getfield 9, 3) := by decide +kernel
theorem dX8_takeSide_36 : decode cX8_takeSide 36 = .ok (.ldc 151, 2) := by decide +kernel
theorem dX8_takeSide_38 : decode cX8_takeSide 38 = .ok (.invokevirtual 37, 3) := by decide +kernel
theorem dX8_takeSide_41 : decode cX8_takeSide 41 = .ok (.ifCond .eq 7, 3) := by decide +kernel
theorem dX8_takeSide_44 : decode cX8_takeSide 44 = .ok (.iconst 2, 1) := by decide +kernel
theorem dX8_takeSide_45 : decode cX8_takeSide 45 = .ok (.goto 4, 3) := by decide +kernel
theorem dX8_takeSide_48 : decode cX8_takeSide 48 = .ok (.iconst (-1), 1) := by decide +kernel
theorem dX8_takeSide_49 : decode cX8_takeSide 49 = .ok (.istore_n 2, 1) := by decide +kernel
theorem dX8_takeSide_50 : decode cX8_takeSide 50 = .ok (.aload_n 0, 1) := by decide +kernel
theorem dX8_takeSide_51 : decode cX8_takeSide 51 = .ok (.getfield 18, 3) := by decide +kernel
theorem dX8_takeSide_54 : decode cX8_takeSide 54 = .ok (.iload_n 1, 1) := by decide +kernel
theorem dX8_takeSide_55 : decode cX8_takeSide 55 = .ok (.iconst (-1), 1) := by decide +kernel
theorem dX8_takeSide_56 : decode cX8_takeSide 56 = .ok (.invokevirtual 153, 3) := by decide +kernel
theorem dX8_takeSide_59 : decode cX8_takeSide 59 = .ok (.istore_n 3, 1) := by decide +kernel
theorem dX8_takeSide_60 : decode cX8_takeSide 60 = .ok (.iload_n 2, 1) := by decide +kernel
theorem dX8_takeSide_61 : decode cX8_takeSide 61 = .ok (.iconst (-1), 1) := by decide +kernel
theorem dX8_takeSide_62 : decode cX8_takeSide 62 = .ok (.if_icmp .ne 14, 3) := by decide +kernel
theorem dX8_takeSide_65 : decode cX8_takeSide 65 = .ok (.aload_n 0, 1) := by decide +kernel
theorem dX8_takeSide_66 : decode cX8_takeSide 66 = .ok (.getfield 9, 3) := by decide +kernel
theorem dX8_takeSide_69 : decode cX8_takeSide 69 = .ok (.iconst 1, 1) := by decide +kernel
theorem dX8_takeSide_70 : decode cX8_takeSide 70 = .ok (.invokevirtual 52, 3) := by decide +kernel
theorem dX8_takeSide_73 : decode cX8_takeSide 73 = .ok (.goto 21, 3) := by decide +kernel
theorem dX8_takeSide_76 : decode cX8_takeSide 76 = .ok (.iload_n 3, 1) := by decide +kernel
theorem dX8_takeSide_77 : decode cX8_takeSide 77 = .ok (.iconst (-1), 1) := by decide +kernel
theorem dX8_takeSide_78 : decode cX8_takeSide 78 = .ok (.if_icmp .eq 16, 3) := by decide +kernel
theorem dX8_takeSide_81 : decode cX8_takeSide 81 = .ok (.iload_n 3, 1) := by decide +kernel
theorem dX8_takeSide_82 : decode cX8_takeSide 82 = .ok (.iload_n 2, 1) := by decide +kernel
theorem dX8_takeSide_83 : decode cX8_takeSide 83 = .ok (.if_icmp .eq 11, 3) := by decide +kernel
theorem dX8_takeSide_86 : decode cX8_takeSide 86 = .ok (.aload_n 0, 1) := by decide +kernel
theorem dX8_takeSide_87 : decode cX8_takeSide 87 = .ok (.getfield 9, 3) := by decide +kernel
theorem dX8_takeSide_90 : decode cX8_takeSide 90 = .ok (.iconst 4, 1) := by decide +kernel
theorem dX8_takeSide_91 : decode cX8_takeSide 91 = .ok (.invokevirtual 52, 3) := by decide +kernel
theorem dX8_takeSide_94 : decode cX8_takeSide 94 = .ok (.aload_n 0, 1) := by decide +kernel
theorem dX8_takeSide_95 : decode cX8_takeSide 95 = .ok (.getfield 9, 3) := by decide +kernel
theorem dX8_takeSide_98 : decode cX8_takeSide 98 = .ok (.invokevirtual 62, 3) := by decide +kernel
theorem dX8_takeSide_101 : decode cX8_takeSide 101 = .ok (.iload_n 2, 1) := by decide +kernel
theorem dX8_takeSide_102 : decode cX8_takeSide 102 = .ok (.ireturn, 1) := by decide +kernel
set_option maxRecDepth 100000 in
theorem t_X8_takeSide_49 (G : MG) (hG : (g_l G).stackTraces = false) (d : Nat) (hd : 5 ≤ d)    (σ : MsSt) (l0 : Nat) (l1 : Int32) (t0 : Int32) (h0 : ms_kd l0 = 9) : TrO G mX8_takeSide d 0 0 0 0 ms_wi 49 [(0, .ref l0), (1, .int l1)] [.int t0] σ (f_X8_takeSide_49 σ l0 l1 t0) := by
  show TrO G mX8_takeSide d 0 0 0 0 ms_wi 49 [(0, .ref l0), (1, .int l1)] [.int t0] σ ((f_X6_sideOfClass σ (ms_rf l0 1) l1 (-1)).bind fun v4 => if t0 = (-1) then (f_X9_fail σ (ms_rf l0 0) 1).bind fun s9 => (f_X9_advance s9 (ms_rf l0 0)).bind fun s10 => some (t0, s10) else if v4 = (-1) then (f_X9_advance σ (ms_rf l0 0)).bind fun s5 => some (t0, s5) else if v4 = t0 then (f_X9_advance σ (ms_rf l0 0)).bind fun s6 => some (t0, s6) else (f_X9_fail σ (ms_rf l0 0) 4).bind fun s7 => (f_X9_advance s7 (ms_rf l0 0)).bind fun s8 => some (t0, s8))
  refine tr_istore_n (lv' := [(0, .ref l0), (1, .int l1), (2, .int t0)]) [1, 2, 0] dX8_takeSide_49 (by decide) rfl ?_
  refine tr_aload_n (i := 0) dX8_takeSide_50 rfl ?_
  refine tr_getR 8 h0 fl_X8_18 (by decide +kernel) dX8_takeSide_51 ?_
  refine tr_iload_n (i := 1) dX8_takeSide_54 rfl ?_
  refine tr_iconst (v := (-1)) dX8_takeSide_55 (by decide +kernel) ?_
  refine tr_c_i (ms_cV (rest := []) (al := [.int l1, .int (-1)]) 6 (sp_X6_sideOfClass G hG (d - 1) (by omega) σ (ms_rf l0 1) l1 (-1) (rk_8_1 h0)) (rk_8_1 h0) (by decide +kernel) kl_X8_153 fv_X6_sideOfClass dX8_takeSide_56 (show _ = some 2 by decide +kernel) (by omega) (Nat.le_of_ble_eq_true rfl) (by decide) (by decide)) (fun v4 => ?_)
  refine tr_istore_n (lv' := [(0, .ref l0), (2, .int t0), (3, .int v4)]) [1, 3, 0] dX8_takeSide_59 (by decide) rfl ?_
  refine tr_iload_n (i := 1) dX8_takeSide_60 rfl ?_
  refine tr_iconst (v := (-1)) dX8_takeSide_61 (by decide +kernel) ?_
  refine tr_icne (o := none) (tgt := 76) dX8_takeSide_62 (by decide) ?_ ?_
  · refine tr_iload_n (i := 2) dX8_takeSide_76 rfl ?_
    refine tr_iconst (v := (-1)) dX8_takeSide_77 (by decide +kernel) ?_
    refine tr_iceq (o := none) (tgt := 94) dX8_takeSide_78 (by decide) ?_ ?_
    · refine tr_aload_n (i := 0) dX8_takeSide_94 rfl ?_
      refine tr_getR 8 h0 fl_X8_9 (by decide +kernel) dX8_takeSide_95 ?_
      refine tr_c_wv (ms_cV (rest := []) (al := []) 9 (sp_X9_advance G hG (d - 1) (by omega) σ (ms_rf l0 0) (rk_8_0 h0)) (rk_8_0 h0) (by decide +kernel) kl_X8_62 fv_X9_advance dX8_takeSide_98 (show _ = some 0 by decide +kernel) (by omega) (Nat.le_of_ble_eq_true rfl) (by decide) (by decide)) (fun s5 => ?_)
      refine tr_iload_n (i := 1) dX8_takeSide_101 rfl ?_
      exact tr_iret rfl rfl (by decide) (by decide) dX8_takeSide_102
    · refine tr_iload_n (i := 2) dX8_takeSide_81 rfl ?_
      refine tr_iload_n (i := 1) dX8_takeSide_82 rfl ?_
      refine tr_iceq (o := none) (tgt := 94) dX8_takeSide_83 (by decide) ?_ ?_
      · refine tr_aload_n (i := 0) dX8_takeSide_94 rfl ?_
        refine tr_getR 8 h0 fl_X8_9 (by decide +kernel) dX8_takeSide_95 ?_
        refine tr_c_wv (ms_cV (rest := []) (al := []) 9 (sp_X9_advance G hG (d - 1) (by omega) σ (ms_rf l0 0) (rk_8_0 h0)) (rk_8_0 h0) (by decide +kernel) kl_X8_62 fv_X9_advance dX8_takeSide_98 (show _ = some 0 by decide +kernel) (by omega) (Nat.le_of_ble_eq_true rfl) (by decide) (by decide)) (fun s6 => ?_)
        refine tr_iload_n (i := 1) dX8_takeSide_101 rfl ?_
        exact tr_iret rfl rfl (by decide) (by decide) dX8_takeSide_102
      · refine tr_aload_n (i := 0) dX8_takeSide_86 rfl ?_
        refine tr_getR 8 h0 fl_X8_9 (by decide +kernel) dX8_takeSide_87 ?_
        refine tr_iconst (v := 4) dX8_takeSide_90 (by decide +kernel) ?_
        refine tr_c_wv (ms_cV (rest := []) (al := [.int 4]) 9 (sp_X9_fail G hG (d - 1) (by omega) σ (ms_rf l0 0) 4 (rk_8_0 h0)) (rk_8_0 h0) (by decide +kernel) kl_X8_52 fv_X9_fail dX8_takeSide_91 (show _ = some 1 by decide +kernel) (by omega) (Nat.le_of_ble_eq_true rfl) (by decide) (by decide)) (fun s7 => ?_)
        refine tr_aload_n (i := 0) dX8_takeSide_94 rfl ?_
        refine tr_getR 8 h0 fl_X8_9 (by decide +kernel) dX8_takeSide_95 ?_
        refine tr_c_wv (ms_cV (rest := []) (al := []) 9 (sp_X9_advance G hG (d - 1) (by omega) s7 (ms_rf l0 0) (rk_8_0 h0)) (rk_8_0 h0) (by decide +kernel) kl_X8_62 fv_X9_advance dX8_takeSide_98 (show _ = some 0 by decide +kernel) (by omega) (Nat.le_of_ble_eq_true rfl) (by decide) (by decide)) (fun s8 => ?_)
        refine tr_iload_n (i := 1) dX8_takeSide_101 rfl ?_
        exact tr_iret rfl rfl (by decide) (by decide) dX8_takeSide_102
  · refine tr_aload_n (i := 0) dX8_takeSide_65 rfl ?_
    refine tr_getR 8 h0 fl_X8_9 (by decide +kernel) dX8_takeSide_66 ?_
    refine tr_iconst (v := 1) dX8_takeSide_69 (by decide +kernel) ?_
    refine tr_c_wv (ms_cV (rest := []) (al := [.int 1]) 9 (sp_X9_fail G hG (d - 1) (by omega) σ (ms_rf l0 0) 1 (rk_8_0 h0)) (rk_8_0 h0) (by decide +kernel) kl_X8_52 fv_X9_fail dX8_takeSide_70 (show _ = some 1 by decide +kernel) (by omega) (Nat.le_of_ble_eq_true rfl) (by decide) (by decide)) (fun s9 => ?_)
    refine tr_goto (tgt := 94) dX8_takeSide_73 (by decide) ?_
    refine tr_aload_n (i := 0) dX8_takeSide_94 rfl ?_
    refine tr_getR 8 h0 fl_X8_9 (by decide +kernel) dX8_takeSide_95 ?_
    refine tr_c_wv (ms_cV (rest := []) (al := []) 9 (sp_X9_advance G hG (d - 1) (by omega) s9 (ms_rf l0 0) (rk_8_0 h0)) (rk_8_0 h0) (by decide +kernel) kl_X8_62 fv_X9_advance dX8_takeSide_98 (show _ = some 0 by decide +kernel) (by omega) (Nat.le_of_ble_eq_true rfl) (by decide) (by decide)) (fun s10 => ?_)
    refine tr_iload_n (i := 1) dX8_takeSide_101 rfl ?_
    exact tr_iret rfl rfl (by decide) (by decide) dX8_takeSide_102
set_option maxRecDepth 100000 in
theorem sp_X8_takeSide (G : MG) (hG : (g_l G).stackTraces = false) (d : Nat) (hd : 5 ≤ d)   (σ : MsSt) (l0 : Nat) (l1 : Int32) (h0 : ms_kd l0 = 9) : MsSpec G mX8_takeSide d 0 0 [.ref l0, .int l1] σ ms_wi (f_X8_takeSide σ l0 l1) := by
  refine ms_start (by decide +kernel) rfl rfl (Nat.le_of_ble_eq_true rfl) ?_
  show TrO G mX8_takeSide d 0 0 0 0 ms_wi 0 [(0, .ref l0), (1, .int l1)] [] σ ((f_X9_isWord σ (ms_rf l0 0) 609).bind fun v1 => if v1 = 0 then (f_X9_isWord σ (ms_rf l0 0) 610).bind fun v2 => if v2 = 0 then (f_X9_isWord σ (ms_rf l0 0) 611).bind fun v3 => if v3 = 0 then f_X8_takeSide_49 σ l0 l1 (-1) else f_X8_takeSide_49 σ l0 l1 2 else f_X8_takeSide_49 σ l0 l1 1 else f_X8_takeSide_49 σ l0 l1 0)
  refine tr_aload_n (i := 0) dX8_takeSide_0 rfl ?_
  refine tr_getR 8 h0 fl_X8_9 (by decide +kernel) dX8_takeSide_1 ?_
  refine tr_ldcs 9 (tx := "above") (by decide) (by decide +kernel) dX8_takeSide_4 ?_
  refine tr_c_i (ms_cV (rest := []) (al := [.ref 609]) 9 (sp_X9_isWord G hG (d - 1) (by omega) σ (ms_rf l0 0) 609 (rk_8_0 h0) (⟨by decide, by decide⟩)) (rk_8_0 h0) (by decide +kernel) kl_X8_37 fv_X9_isWord dX8_takeSide_6 (show _ = some 1 by decide +kernel) (by omega) (Nat.le_of_ble_eq_true rfl) (by decide) (by decide)) (fun v1 => ?_)
  refine tr_ifeq (o := none) (tgt := 16) dX8_takeSide_9 (by decide) ?_ ?_
  · refine tr_aload_n (i := 0) dX8_takeSide_16 rfl ?_
    refine tr_getR 8 h0 fl_X8_9 (by decide +kernel) dX8_takeSide_17 ?_
    refine tr_ldcs 10 (tx := "below") (by decide) (by decide +kernel) dX8_takeSide_20 ?_
    refine tr_c_i (ms_cV (rest := []) (al := [.ref 610]) 9 (sp_X9_isWord G hG (d - 1) (by omega) σ (ms_rf l0 0) 610 (rk_8_0 h0) (⟨by decide, by decide⟩)) (rk_8_0 h0) (by decide +kernel) kl_X8_37 fv_X9_isWord dX8_takeSide_22 (show _ = some 1 by decide +kernel) (by omega) (Nat.le_of_ble_eq_true rfl) (by decide) (by decide)) (fun v2 => ?_)
    refine tr_ifeq (o := none) (tgt := 32) dX8_takeSide_25 (by decide) ?_ ?_
    · refine tr_aload_n (i := 0) dX8_takeSide_32 rfl ?_
      refine tr_getR 8 h0 fl_X8_9 (by decide +kernel) dX8_takeSide_33 ?_
      refine tr_ldcs 11 (tx := "through") (by decide) (by decide +kernel) dX8_takeSide_36 ?_
      refine tr_c_i (ms_cV (rest := []) (al := [.ref 611]) 9 (sp_X9_isWord G hG (d - 1) (by omega) σ (ms_rf l0 0) 611 (rk_8_0 h0) (⟨by decide, by decide⟩)) (rk_8_0 h0) (by decide +kernel) kl_X8_37 fv_X9_isWord dX8_takeSide_38 (show _ = some 1 by decide +kernel) (by omega) (Nat.le_of_ble_eq_true rfl) (by decide) (by decide)) (fun v3 => ?_)
      refine tr_ifeq (o := none) (tgt := 48) dX8_takeSide_41 (by decide) ?_ ?_
      · refine tr_iconst (v := (-1)) dX8_takeSide_48 (by decide +kernel) ?_
        exact t_X8_takeSide_49 G hG d hd σ l0 l1 (-1) h0
      · refine tr_iconst (v := 2) dX8_takeSide_44 (by decide +kernel) ?_
        refine tr_goto (tgt := 49) dX8_takeSide_45 (by decide) ?_
        exact t_X8_takeSide_49 G hG d hd σ l0 l1 2 h0
    · refine tr_iconst (v := 1) dX8_takeSide_28 (by decide +kernel) ?_
      refine tr_goto (tgt := 49) dX8_takeSide_29 (by decide) ?_
      exact t_X8_takeSide_49 G hG d hd σ l0 l1 1 h0
  · refine tr_iconst (v := 0) dX8_takeSide_12 (by decide +kernel) ?_
    refine tr_goto (tgt := 49) dX8_takeSide_13 (by decide) ?_
    exact t_X8_takeSide_49 G hG d hd σ l0 l1 0 h0
theorem dX8_readMark_0 : decode cX8_readMark 0 = .ok (.aload_n 0, 1) := by decide +kernel
theorem dX8_readMark_1 : decode cX8_readMark 1 = .ok (.iconst 1, 1) := by decide +kernel
theorem dX8_readMark_2 : decode cX8_readMark 2 = .ok (.invokevirtual 114, 3) := by decide +kernel
theorem dX8_readMark_5 : decode cX8_readMark 5 = .ok (.astore_n 1, 1) := by decide +kernel
theorem dX8_readMark_6 : decode cX8_readMark 6 = .ok (.aload_n 1, 1) := by decide +kernel
theorem dX8_readMark_7 : decode cX8_readMark 7 = .ok (.aload_n 0, 1) := by decide +kernel
theorem dX8_readMark_8 : decode cX8_readMark 8 = .ok (.getfield 9, 3) := by decide +kernel
theorem dX8_readMark_11 : decode cX8_readMark 11 = .ok (.iconst 1, 1) := by decide +kernel
theorem dX8_readMark_12 : decode cX8_readMark 12 = .ok (.bipush 60, 2) := by decide +kernel
theorem dX8_readMark_14 : decode cX8_readMark 14 = .ok (.invokevirtual 69, 3) := by decide +kernel
theorem dX8_readMark_17 : decode cX8_readMark 17 = .ok (.putfield 135, 3) := by decide +kernel
theorem dX8_readMark_20 : decode cX8_readMark 20 = .ok (.aload_n 1, 1) := by decide +kernel
theorem dX8_readMark_21 : decode cX8_readMark 21 = .ok (.aload_n 0, 1) := by decide +kernel
theorem dX8_readMark_22 : decode cX8_readMark 22 = .ok (.aload_n 1, 1) := by decide +kernel
theorem dX8_readMark_23 : decode cX8_readMark 23 = .ok (.getfield 135, 3) := by decide +kernel
theorem dX8_readMark_26 : decode cX8_readMark 26 = .ok (.invokevirtual 138, 3) := by decide +kernel
theorem dX8_readMark_29 : decode cX8_readMark 29 = .ok (.putfield 141, 3) := by decide +kernel
theorem dX8_readMark_32 : decode cX8_readMark 32 = .ok (.aload_n 1, 1) := by decide +kernel
theorem dX8_readMark_33 : decode cX8_readMark 33 = .ok (.aload_n 0, 1) := by decide +kernel
theorem dX8_readMark_34 : decode cX8_readMark 34 = .ok (.getfield 9, 3) := by decide +kernel
theorem dX8_readMark_37 : decode cX8_readMark 37 = .ok (.iconst 1, 1) := by decide +kernel
theorem dX8_readMark_38 : decode cX8_readMark 38 = .ok (.bipush 9, 2) := by decide +kernel
theorem dX8_readMark_40 : decode cX8_readMark 40 = .ok (.invokevirtual 69, 3) := by decide +kernel
theorem dX8_readMark_43 : decode cX8_readMark 43 = .ok (.putfield 117, 3) := by decide +kernel
theorem dX8_readMark_46 : decode cX8_readMark 46 = .ok (.aload_n 1, 1) := by decide +kernel
theorem dX8_readMark_47 : decode cX8_readMark 47 = .ok (.aload_n 0, 1) := by decide +kernel
theorem dX8_readMark_48 : decode cX8_readMark 48 = .ok (.getfield 9, 3) := by decide +kernel
theorem dX8_readMark_51 : decode cX8_readMark 51 = .ok (.iconst 1, 1) := by decide +kernel
theorem dX8_readMark_52 : decode cX8_readMark 52 = .ok (.bipush 9, 2) := by decide +kernel
theorem dX8_readMark_54 : decode cX8_readMark 54 = .ok (.invokevirtual 69, 3) := by decide +kernel
theorem dX8_readMark_57 : decode cX8_readMark 57 = .ok (.putfield 120, 3) := by decide +kernel
theorem dX8_readMark_60 : decode cX8_readMark 60 = .ok (.aload_n 1, 1) := by decide +kernel
theorem dX8_readMark_61 : decode cX8_readMark 61 = .ok (.aload_n 0, 1) := by decide +kernel
theorem dX8_readMark_62 : decode cX8_readMark 62 = .ok (.getfield 9, 3) := by decide +kernel
theorem dX8_readMark_65 : decode cX8_readMark 65 = .ok (.iconst 0, 1) := by decide +kernel
theorem dX8_readMark_66 : decode cX8_readMark 66 = .ok (.bipush 9, 2) := by decide +kernel
theorem dX8_readMark_68 : decode cX8_readMark 68 = .ok (.invokevirtual 69, 3) := by decide +kernel
theorem dX8_readMark_71 : decode cX8_readMark 71 = .ok (.putfield 144, 3) := by decide +kernel
theorem dX8_readMark_74 : decode cX8_readMark 74 = .ok (.aload_n 1, 1) := by decide +kernel
theorem dX8_readMark_75 : decode cX8_readMark 75 = .ok (.aload_n 0, 1) := by decide +kernel
theorem dX8_readMark_76 : decode cX8_readMark 76 = .ok (.getfield 18, 3) := by decide +kernel
theorem dX8_readMark_79 : decode cX8_readMark 79 = .ok (.getfield 88, 3) := by decide +kernel
theorem dX8_readMark_82 : decode cX8_readMark 82 = .ok (.invokevirtual 129, 3) := by decide +kernel
theorem dX8_readMark_85 : decode cX8_readMark 85 = .ok (.aload_n 0, 1) := by decide +kernel
theorem dX8_readMark_86 : decode cX8_readMark 86 = .ok (.invokevirtual 132, 3) := by decide +kernel
theorem dX8_readMark_89 : decode cX8_readMark 89 = .ok (.return_, 1) := by decide +kernel
set_option maxRecDepth 100000 in
theorem sp_X8_readMark (G : MG) (hG : (g_l G).stackTraces = false) (d : Nat) (hd : 8 ≤ d)   (σ : MsSt) (l0 : Nat) (h0 : ms_kd l0 = 9) : MsSpec G mX8_readMark d 0 0 [.ref l0] σ ms_wv (f_X8_readMark σ l0) := by
  refine ms_start (by decide +kernel) rfl rfl (Nat.le_of_ble_eq_true rfl) ?_
  show TrO G mX8_readMark d 0 0 0 0 ms_wv 0 [(0, .ref l0)] [] σ (ms_b2 (f_X8_beginSign σ l0 1) fun v1 s2 => ms_b2 (f_X9_takeNumber s2 (ms_rf l0 0) 1 60) fun v3 s4 => ms_nm (ms_si s4 v1 4 v3) fun s5 => ms_b2 (f_X8_takeSide s5 l0 (ms_i s5 v1 4)) fun v6 s7 => ms_nm (ms_si s7 v1 5 v6) fun s8 => ms_b2 (f_X9_takeNumber s8 (ms_rf l0 0) 1 9) fun v9 s10 => ms_nm (ms_si s10 v1 6 v9) fun s11 => ms_b2 (f_X9_takeNumber s11 (ms_rf l0 0) 1 9) fun v12 s13 => ms_nm (ms_si s13 v1 7 v12) fun s14 => ms_b2 (f_X9_takeNumber s14 (ms_rf l0 0) 0 9) fun v15 s16 => ms_nm (ms_si s16 v1 10 v15) fun s17 => (f_X7_addPart s17 v1 (ms_i s17 (ms_rf l0 1) 4)).bind fun s18 => (f_X8_endSign s18 l0).bind fun s19 => some s19)
  refine tr_aload_n (i := 0) dX8_readMark_0 rfl ?_
  refine tr_iconst (v := 1) dX8_readMark_1 (by decide +kernel) ?_
  refine tr_d_wa (ms_cV (rest := []) (al := [.int 1]) 8 (sp_X8_beginSign G hG (d - 1) (by omega) σ l0 1 h0) h0 (by decide +kernel) kl_X8_114 fv_X8_beginSign dX8_readMark_2 (show _ = some 1 by decide +kernel) (by omega) (Nat.le_of_ble_eq_true rfl) (by decide) (by decide)) (fun v1 s2 e_v1 => ?_)
  refine tr_astore_n (lv' := [(0, .ref l0), (1, .ref v1)]) [1, 0] dX8_readMark_5 (by decide) rfl ?_
  refine tr_aload_n (i := 1) dX8_readMark_6 rfl ?_
  refine tr_aload_n (i := 0) dX8_readMark_7 rfl ?_
  refine tr_getR 8 h0 fl_X8_9 (by decide +kernel) dX8_readMark_8 ?_
  refine tr_iconst (v := 1) dX8_readMark_11 (by decide +kernel) ?_
  refine tr_bipush (v := 60) dX8_readMark_12 (by decide +kernel) ?_
  refine tr_d_wi (ms_cV (rest := [.ref v1]) (al := [.int 1, .int 60]) 9 (sp_X9_takeNumber G hG (d - 1) (by omega) s2 (ms_rf l0 0) 1 60 (rk_8_0 h0)) (rk_8_0 h0) (by decide +kernel) kl_X8_69 fv_X9_takeNumber dX8_readMark_14 (show _ = some 2 by decide +kernel) (by omega) (Nat.le_of_ble_eq_true rfl) (by decide) (by decide)) (fun v3 s4 => ?_)
  refine tr_putI 7 (ra_X8_beginSign h0 e_v1) fl_X8_135 (by decide +kernel) dX8_readMark_17 ?_
  refine ms_ltS (fun s5 => ?_)
  refine tr_aload_n (i := 1) dX8_readMark_20 rfl ?_
  refine tr_aload_n (i := 0) dX8_readMark_21 rfl ?_
  refine tr_aload_n (i := 1) dX8_readMark_22 rfl ?_
  refine tr_getI 7 (ra_X8_beginSign h0 e_v1) fl_X8_135 (by decide +kernel) dX8_readMark_23 ?_
  refine tr_d_wi (ms_cV (rest := [.ref v1]) (al := [.int (ms_i s5 v1 4)]) 8 (sp_X8_takeSide G hG (d - 1) (by omega) s5 l0 (ms_i s5 v1 4) h0) h0 (by decide +kernel) kl_X8_138 fv_X8_takeSide dX8_readMark_26 (show _ = some 1 by decide +kernel) (by omega) (Nat.le_of_ble_eq_true rfl) (by decide) (by decide)) (fun v6 s7 => ?_)
  refine tr_putI 7 (ra_X8_beginSign h0 e_v1) fl_X8_141 (by decide +kernel) dX8_readMark_29 ?_
  refine ms_ltS (fun s8 => ?_)
  refine tr_aload_n (i := 1) dX8_readMark_32 rfl ?_
  refine tr_aload_n (i := 0) dX8_readMark_33 rfl ?_
  refine tr_getR 8 h0 fl_X8_9 (by decide +kernel) dX8_readMark_34 ?_
  refine tr_iconst (v := 1) dX8_readMark_37 (by decide +kernel) ?_
  refine tr_bipush (v := 9) dX8_readMark_38 (by decide +kernel) ?_
  refine tr_d_wi (ms_cV (rest := [.ref v1]) (al := [.int 1, .int 9]) 9 (sp_X9_takeNumber G hG (d - 1) (by omega) s8 (ms_rf l0 0) 1 9 (rk_8_0 h0)) (rk_8_0 h0) (by decide +kernel) kl_X8_69 fv_X9_takeNumber dX8_readMark_40 (show _ = some 2 by decide +kernel) (by omega) (Nat.le_of_ble_eq_true rfl) (by decide) (by decide)) (fun v9 s10 => ?_)
  refine tr_putI 7 (ra_X8_beginSign h0 e_v1) fl_X8_117 (by decide +kernel) dX8_readMark_43 ?_
  refine ms_ltS (fun s11 => ?_)
  refine tr_aload_n (i := 1) dX8_readMark_46 rfl ?_
  refine tr_aload_n (i := 0) dX8_readMark_47 rfl ?_
  refine tr_getR 8 h0 fl_X8_9 (by decide +kernel) dX8_readMark_48 ?_
  refine tr_iconst (v := 1) dX8_readMark_51 (by decide +kernel) ?_
  refine tr_bipush (v := 9) dX8_readMark_52 (by decide +kernel) ?_
  refine tr_d_wi (ms_cV (rest := [.ref v1]) (al := [.int 1, .int 9]) 9 (sp_X9_takeNumber G hG (d - 1) (by omega) s11 (ms_rf l0 0) 1 9 (rk_8_0 h0)) (rk_8_0 h0) (by decide +kernel) kl_X8_69 fv_X9_takeNumber dX8_readMark_54 (show _ = some 2 by decide +kernel) (by omega) (Nat.le_of_ble_eq_true rfl) (by decide) (by decide)) (fun v12 s13 => ?_)
  refine tr_putI 7 (ra_X8_beginSign h0 e_v1) fl_X8_120 (by decide +kernel) dX8_readMark_57 ?_
  refine ms_ltS (fun s14 => ?_)
  refine tr_aload_n (i := 1) dX8_readMark_60 rfl ?_
  refine tr_aload_n (i := 0) dX8_readMark_61 rfl ?_
  refine tr_getR 8 h0 fl_X8_9 (by decide +kernel) dX8_readMark_62 ?_
  refine tr_iconst (v := 0) dX8_readMark_65 (by decide +kernel) ?_
  refine tr_bipush (v := 9) dX8_readMark_66 (by decide +kernel) ?_
  refine tr_d_wi (ms_cV (rest := [.ref v1]) (al := [.int 0, .int 9]) 9 (sp_X9_takeNumber G hG (d - 1) (by omega) s14 (ms_rf l0 0) 0 9 (rk_8_0 h0)) (rk_8_0 h0) (by decide +kernel) kl_X8_69 fv_X9_takeNumber dX8_readMark_68 (show _ = some 2 by decide +kernel) (by omega) (Nat.le_of_ble_eq_true rfl) (by decide) (by decide)) (fun v15 s16 => ?_)
  refine tr_putI 7 (ra_X8_beginSign h0 e_v1) fl_X8_144 (by decide +kernel) dX8_readMark_71 ?_
  refine ms_ltS (fun s17 => ?_)
  refine tr_aload_n (i := 1) dX8_readMark_74 rfl ?_
  refine tr_aload_n (i := 0) dX8_readMark_75 rfl ?_
  refine tr_getR 8 h0 fl_X8_18 (by decide +kernel) dX8_readMark_76 ?_
  refine tr_getI 6 (rk_8_1 h0) fl_X8_88 (by decide +kernel) dX8_readMark_79 ?_
  refine tr_c_wv (ms_cV (rest := []) (al := [.int (ms_i s17 (ms_rf l0 1) 4)]) 7 (sp_X7_addPart G hG (d - 1) (by omega) s17 v1 (ms_i s17 (ms_rf l0 1) 4) (ra_X8_beginSign h0 e_v1)) (ra_X8_beginSign h0 e_v1) (by decide +kernel) kl_X8_129 fv_X7_addPart dX8_readMark_82 (show _ = some 1 by decide +kernel) (by omega) (Nat.le_of_ble_eq_true rfl) (by decide) (by decide)) (fun s18 => ?_)
  refine tr_aload_n (i := 0) dX8_readMark_85 rfl ?_
  refine tr_c_wv (ms_cV (rest := []) (al := []) 8 (sp_X8_endSign G hG (d - 1) (by omega) s18 l0 h0) h0 (by decide +kernel) kl_X8_132 fv_X8_endSign dX8_readMark_86 (show _ = some 0 by decide +kernel) (by omega) (Nat.le_of_ble_eq_true rfl) (by decide) (by decide)) (fun s19 => ?_)
  exact tr_vret rfl rfl (by decide) (by decide) dX8_readMark_89
theorem dX8_findSign_0 : decode cX8_findSign 0 = .ok (.iconst (-1), 1) := by decide +kernel
theorem dX8_findSign_1 : decode cX8_findSign 1 = .ok (.istore_n 1, 1) := by decide +kernel
theorem dX8_findSign_2 : decode cX8_findSign 2 = .ok (.aload_n 0, 1) := by decide +kernel
theorem dX8_findSign_3 : decode cX8_findSign 3 = .ok (.getfield 9, 3) := by decide +kernel
theorem dX8_findSign_6 : decode cX8_findSign 6 = .ok (.invokevirtual 107, 3) := by decide +kernel
theorem dX8_findSign_9 : decode cX8_findSign 9 = .ok (.ifCond .ne 14, 3) := by decide +kernel
theorem dX8_findSign_12 : decode cX8_findSign 12 = .ok (.aload_n 0, 1) := by decide +kernel
theorem dX8_findSign_13 : decode cX8_findSign 13 = .ok (.getfield 9, 3) := by decide +kernel
theorem dX8_findSign_16 : decode cX8_findSign 16 = .ok (.iconst 1, 1) := by decide +kernel
theorem dX8_findSign_17 : decode cX8_findSign 17 = .ok (.invokevirtual 52, 3) := by decide +kernel
theorem dX8_findSign_20 : decode cX8_findSign 20 = .ok (.goto 31, 3) := by decide +kernel
theorem dX8_findSign_23 : decode cX8_findSign 23 = .ok (.aload_n 0, 1) := by decide +kernel
theorem dX8_findSign_24 : decode cX8_findSign 24 = .ok (.getfield 18, 3) := by decide +kernel
theorem dX8_findSign_27 : decode cX8_findSign 27 = .ok (.aload_n 0, 1) := by decide +kernel
theorem dX8_findSign_28 : decode cX8_findSign 28 = .ok (.getfield 9, 3) := by decide +kernel
theorem dX8_findSign_31 : decode cX8_findSign 31 = .ok (.invokevirtual 104, 3) := by decide +kernel
theorem dX8_findSign_34 : decode cX8_findSign 34 = .ok (.invokevirtual 110, 3) := by decide +kernel
theorem dX8_findSign_37 : decode cX8_findSign 37 = .ok (.istore_n 1, 1) := by decide +kernel
theorem dX8_findSign_38 : decode cX8_findSign 38 = .ok (.iload_n 1, 1) := by decide +kernel
theorem dX8_findSign_39 : decode cX8_findSign 39 = .ok (.iconst (-1), 1) := by decide +kernel
theorem dX8_findSign_40 : decode cX8_findSign 40 = .ok (.if_icmp .ne 11, 3) := by decide +kernel
theorem dX8_findSign_43 : decode cX8_findSign 43 = .ok (.aload_n 0, 1) := by decide +kernel
theorem dX8_findSign_44 : decode cX8_findSign 44 = .ok (.getfield 9, 3) := by decide +kernel
theorem dX8_findSign_47 : decode cX8_findSign 47 = .ok (.iconst 4, 1) := by decide +kernel
theorem dX8_findSign_48 : decode cX8_findSign 48 = .ok (.invokevirtual 52, 3) := by decide +kernel
theorem dX8_findSign_51 : decode cX8_findSign 51 = .ok (.iload_n 1, 1) := by decide +kernel
theorem dX8_findSign_52 : decode cX8_findSign 52 = .ok (.ireturn, 1) := by decide +kernel
set_option maxRecDepth 100000 in
theorem sp_X8_findSign (G : MG) (hG : (g_l G).stackTraces = false) (d : Nat) (hd : 6 ≤ d)   (σ : MsSt) (l0 : Nat) (h0 : ms_kd l0 = 9) : MsSpec G mX8_findSign d 0 0 [.ref l0] σ ms_wi (f_X8_findSign σ l0) := by
  refine ms_start (by decide +kernel) rfl rfl (Nat.le_of_ble_eq_true rfl) ?_
  show TrO G mX8_findSign d 0 0 0 0 ms_wi 0 [(0, .ref l0)] [] σ ((f_X9_isName σ (ms_rf l0 0)).bind fun v1 => if v1 = 0 then (f_X9_fail σ (ms_rf l0 0) 1).bind fun s5 => some ((-1), s5) else (f_X9_packedName σ (ms_rf l0 0)).bind fun v2 => (f_X6_findName σ (ms_rf l0 1) v2).bind fun v3 => if v3 = (-1) then (f_X9_fail σ (ms_rf l0 0) 4).bind fun s4 => some (v3, s4) else some (v3, σ))
  refine tr_iconst (v := (-1)) dX8_findSign_0 (by decide +kernel) ?_
  refine tr_istore_n (lv' := [(0, .ref l0), (1, .int (-1))]) [1, 0] dX8_findSign_1 (by decide) rfl ?_
  refine tr_aload_n (i := 0) dX8_findSign_2 rfl ?_
  refine tr_getR 8 h0 fl_X8_9 (by decide +kernel) dX8_findSign_3 ?_
  refine tr_c_i (ms_cV (rest := []) (al := []) 9 (sp_X9_isName G hG (d - 1) (by omega) σ (ms_rf l0 0) (rk_8_0 h0)) (rk_8_0 h0) (by decide +kernel) kl_X8_107 fv_X9_isName dX8_findSign_6 (show _ = some 0 by decide +kernel) (by omega) (Nat.le_of_ble_eq_true rfl) (by decide) (by decide)) (fun v1 => ?_)
  refine tr_ifne (o := none) (tgt := 23) dX8_findSign_9 (by decide) ?_ ?_
  · refine tr_aload_n (i := 0) dX8_findSign_23 rfl ?_
    refine tr_getR 8 h0 fl_X8_18 (by decide +kernel) dX8_findSign_24 ?_
    refine tr_aload_n (i := 0) dX8_findSign_27 rfl ?_
    refine tr_getR 8 h0 fl_X8_9 (by decide +kernel) dX8_findSign_28 ?_
    refine tr_c_i (ms_cV (rest := [.ref (ms_rf l0 1)]) (al := []) 9 (sp_X9_packedName G hG (d - 1) (by omega) σ (ms_rf l0 0) (rk_8_0 h0)) (rk_8_0 h0) (by decide +kernel) kl_X8_104 fv_X9_packedName dX8_findSign_31 (show _ = some 0 by decide +kernel) (by omega) (Nat.le_of_ble_eq_true rfl) (by decide) (by decide)) (fun v2 => ?_)
    refine tr_c_i (ms_cV (rest := []) (al := [.int v2]) 6 (sp_X6_findName G hG (d - 1) (by omega) σ (ms_rf l0 1) v2 (rk_8_1 h0)) (rk_8_1 h0) (by decide +kernel) kl_X8_110 fv_X6_findName dX8_findSign_34 (show _ = some 1 by decide +kernel) (by omega) (Nat.le_of_ble_eq_true rfl) (by decide) (by decide)) (fun v3 => ?_)
    refine tr_istore_n (lv' := [(0, .ref l0), (1, .int v3)]) [1, 0] dX8_findSign_37 (by decide) rfl ?_
    refine tr_iload_n (i := 1) dX8_findSign_38 rfl ?_
    refine tr_iconst (v := (-1)) dX8_findSign_39 (by decide +kernel) ?_
    refine tr_icne (o := none) (tgt := 51) dX8_findSign_40 (by decide) ?_ ?_
    · refine tr_iload_n (i := 1) dX8_findSign_51 rfl ?_
      exact tr_iret rfl rfl (by decide) (by decide) dX8_findSign_52
    · refine tr_aload_n (i := 0) dX8_findSign_43 rfl ?_
      refine tr_getR 8 h0 fl_X8_9 (by decide +kernel) dX8_findSign_44 ?_
      refine tr_iconst (v := 4) dX8_findSign_47 (by decide +kernel) ?_
      refine tr_c_wv (ms_cV (rest := []) (al := [.int 4]) 9 (sp_X9_fail G hG (d - 1) (by omega) σ (ms_rf l0 0) 4 (rk_8_0 h0)) (rk_8_0 h0) (by decide +kernel) kl_X8_52 fv_X9_fail dX8_findSign_48 (show _ = some 1 by decide +kernel) (by omega) (Nat.le_of_ble_eq_true rfl) (by decide) (by decide)) (fun s4 => ?_)
      refine tr_iload_n (i := 1) dX8_findSign_51 rfl ?_
      exact tr_iret rfl rfl (by decide) (by decide) dX8_findSign_52
  · refine tr_aload_n (i := 0) dX8_findSign_12 rfl ?_
    refine tr_getR 8 h0 fl_X8_9 (by decide +kernel) dX8_findSign_13 ?_
    refine tr_iconst (v := 1) dX8_findSign_16 (by decide +kernel) ?_
    refine tr_c_wv (ms_cV (rest := []) (al := [.int 1]) 9 (sp_X9_fail G hG (d - 1) (by omega) σ (ms_rf l0 0) 1 (rk_8_0 h0)) (rk_8_0 h0) (by decide +kernel) kl_X8_52 fv_X9_fail dX8_findSign_17 (show _ = some 1 by decide +kernel) (by omega) (Nat.le_of_ble_eq_true rfl) (by decide) (by decide)) (fun s5 => ?_)
    refine tr_goto (tgt := 51) dX8_findSign_20 (by decide) ?_
    refine tr_iload_n (i := 1) dX8_findSign_51 rfl ?_
    exact tr_iret rfl rfl (by decide) (by decide) dX8_findSign_52
theorem dX8_takeFirst_0 : decode cX8_takeFirst 0 = .ok (.aload_n 0, 1) := by decide +kernel
theorem dX8_takeFirst_1 : decode cX8_takeFirst 1 = .ok (.invokevirtual 183, 3) := by decide +kernel
theorem dX8_takeFirst_4 : decode cX8_takeFirst 4 = .ok (.istore_n 1, 1) := by decide +kernel
theorem dX8_takeFirst_5 : decode cX8_takeFirst 5 = .ok (.aload_n 0, 1) := by decide +kernel
theorem dX8_takeFirst_6 : decode cX8_takeFirst 6 = .ok (.getfield 18, 3) := by decide +kernel
theorem dX8_takeFirst_9 : decode cX8_takeFirst 9 = .ok (.iload_n 1, 1) := by decide +kernel
theorem dX8_takeFirst_10 : decode cX8_takeFirst 10 = .ok (.invokevirtual 186, 3) := by decide +kernel
theorem dX8_takeFirst_13 : decode cX8_takeFirst 13 = .ok (.iconst 1, 1) := by decide +kernel
theorem dX8_takeFirst_14 : decode cX8_takeFirst 14 = .ok (.if_icmp .ne 14, 3) := by decide +kernel
theorem dX8_takeFirst_17 : decode cX8_takeFirst 17 = .ok (.aload_n 0, 1) := by decide +kernel
theorem dX8_takeFirst_18 : decode cX8_takeFirst 18 = .ok (.getfield 9, 3) := by decide +kernel
theorem dX8_takeFirst_21 : decode cX8_takeFirst 21 = .ok (.iconst 4, 1) := by decide +kernel
theorem dX8_takeFirst_22 : decode cX8_takeFirst 22 = .ok (.invokevirtual 52, 3) := by decide +kernel
theorem dX8_takeFirst_25 : decode cX8_takeFirst 25 = .ok (.goto 27, 3) := by decide +kernel
theorem dX8_takeFirst_28 : decode cX8_takeFirst 28 = .ok (.aload_n 0, 1) := by decide +kernel
theorem dX8_takeFirst_29 : decode cX8_takeFirst 29 = .ok (.getfield 18, 3) := by decide +kernel
theorem dX8_takeFirst_32 : decode cX8_takeFirst 32 = .ok (.iload_n 1, 1) := by decide +kernel
theorem dX8_takeFirst_33 : decode cX8_takeFirst 33 = .ok (.invokevirtual 91, 3) := by decide +kernel
theorem dX8_takeFirst_36 : decode cX8_takeFirst 36 = .ok (.getfield 189, 3) := by decide +kernel
theorem dX8_takeFirst_39 : decode cX8_takeFirst 39 = .ok (.bipush 6, 2) := by decide +kernel
theorem dX8_takeFirst_41 : decode cX8_takeFirst 41 = .ok (.if_icmp .lt 11, 3) := by decide +kernel
theorem dX8_takeFirst_44 : decode cX8_takeFirst 44 = .ok (.aload_n 0, 1) := by decide +kernel
theorem dX8_takeFirst_45 : decode cX8_takeFirst 45 = .ok (.getfield 9, 3) := by decide +kernel
theorem dX8_takeFirst_48 : decode cX8_takeFirst 48 = .ok (.iconst 5, 1) := by decide +kernel
theorem dX8_takeFirst_49 : decode cX8_takeFirst 49 = .ok (.invokevirtual 52, 3) := by decide +kernel
theorem dX8_takeFirst_52 : decode cX8_takeFirst 52 = .ok (.aload_n 0, 1) := by decide +kernel
theorem dX8_takeFirst_53 : decode cX8_takeFirst 53 = .ok (.getfield 9, 3) := by decide +kernel
theorem dX8_takeFirst_56 : decode cX8_takeFirst 56 = .ok (.invokevirtual 62, 3) := by decide +kernel
theorem dX8_takeFirst_59 : decode cX8_takeFirst 59 = .ok (.iload_n 1, 1) := by decide +kernel
theorem dX8_takeFirst_60 : decode cX8_takeFirst 60 = .ok (.ireturn, 1) := by decide +kernel
set_option maxRecDepth 100000 in
theorem sp_X8_takeFirst (G : MG) (hG : (g_l G).stackTraces = false) (d : Nat) (hd : 7 ≤ d)   (σ : MsSt) (l0 : Nat) (h0 : ms_kd l0 = 9) : MsSpec G mX8_takeFirst d 0 0 [.ref l0] σ ms_wi (f_X8_takeFirst σ l0) := by
  refine ms_start (by decide +kernel) rfl rfl (Nat.le_of_ble_eq_true rfl) ?_
  show TrO G mX8_takeFirst d 0 0 0 0 ms_wi 0 [(0, .ref l0)] [] σ (ms_b2 (f_X8_findSign σ l0) fun v1 s2 => (f_X6_kindOf s2 (ms_rf l0 1) v1).bind fun v3 => if v3 = 1 then (f_X9_fail s2 (ms_rf l0 0) 4).bind fun s8 => (f_X9_advance s8 (ms_rf l0 0)).bind fun s9 => some (v1, s9) else (f_X6_told s2 (ms_rf l0 1) v1).bind fun v4 => if (ms_i s2 v4 3) < 6 then (f_X9_advance s2 (ms_rf l0 0)).bind fun s5 => some (v1, s5) else (f_X9_fail s2 (ms_rf l0 0) 5).bind fun s6 => (f_X9_advance s6 (ms_rf l0 0)).bind fun s7 => some (v1, s7))
  refine tr_aload_n (i := 0) dX8_takeFirst_0 rfl ?_
  refine tr_d_wi (ms_cV (rest := []) (al := []) 8 (sp_X8_findSign G hG (d - 1) (by omega) σ l0 h0) h0 (by decide +kernel) kl_X8_183 fv_X8_findSign dX8_takeFirst_1 (show _ = some 0 by decide +kernel) (by omega) (Nat.le_of_ble_eq_true rfl) (by decide) (by decide)) (fun v1 s2 => ?_)
  refine tr_istore_n (lv' := [(0, .ref l0), (1, .int v1)]) [1, 0] dX8_takeFirst_4 (by decide) rfl ?_
  refine tr_aload_n (i := 0) dX8_takeFirst_5 rfl ?_
  refine tr_getR 8 h0 fl_X8_18 (by decide +kernel) dX8_takeFirst_6 ?_
  refine tr_iload_n (i := 1) dX8_takeFirst_9 rfl ?_
  refine tr_c_i (ms_cV (rest := []) (al := [.int v1]) 6 (sp_X6_kindOf G hG (d - 1) (by omega) s2 (ms_rf l0 1) v1 (rk_8_1 h0)) (rk_8_1 h0) (by decide +kernel) kl_X8_186 fv_X6_kindOf dX8_takeFirst_10 (show _ = some 1 by decide +kernel) (by omega) (Nat.le_of_ble_eq_true rfl) (by decide) (by decide)) (fun v3 => ?_)
  refine tr_iconst (v := 1) dX8_takeFirst_13 (by decide +kernel) ?_
  refine tr_icne (o := none) (tgt := 28) dX8_takeFirst_14 (by decide) ?_ ?_
  · refine tr_aload_n (i := 0) dX8_takeFirst_28 rfl ?_
    refine tr_getR 8 h0 fl_X8_18 (by decide +kernel) dX8_takeFirst_29 ?_
    refine tr_iload_n (i := 1) dX8_takeFirst_32 rfl ?_
    refine tr_c_a (ms_cV (rest := []) (al := [.int v1]) 6 (sp_X6_told G hG (d - 1) (by omega) s2 (ms_rf l0 1) v1 (rk_8_1 h0)) (rk_8_1 h0) (by decide +kernel) kl_X8_91 fv_X6_told dX8_takeFirst_33 (show _ = some 1 by decide +kernel) (by omega) (Nat.le_of_ble_eq_true rfl) (by decide) (by decide)) (fun v4 e_v4 => ?_)
    refine tr_getI 7 (ra_X6_told (rk_8_1 h0) e_v4) fl_X8_189 (by decide +kernel) dX8_takeFirst_36 ?_
    refine tr_bipush (v := 6) dX8_takeFirst_39 (by decide +kernel) ?_
    refine tr_iclt (o := none) (tgt := 52) dX8_takeFirst_41 (by decide) ?_ ?_
    · refine tr_aload_n (i := 0) dX8_takeFirst_52 rfl ?_
      refine tr_getR 8 h0 fl_X8_9 (by decide +kernel) dX8_takeFirst_53 ?_
      refine tr_c_wv (ms_cV (rest := []) (al := []) 9 (sp_X9_advance G hG (d - 1) (by omega) s2 (ms_rf l0 0) (rk_8_0 h0)) (rk_8_0 h0) (by decide +kernel) kl_X8_62 fv_X9_advance dX8_takeFirst_56 (show _ = some 0 by decide +kernel) (by omega) (Nat.le_of_ble_eq_true rfl) (by decide) (by decide)) (fun s5 => ?_)
      refine tr_iload_n (i := 1) dX8_takeFirst_59 rfl ?_
      exact tr_iret rfl rfl (by decide) (by decide) dX8_takeFirst_60
    · refine tr_aload_n (i := 0) dX8_takeFirst_44 rfl ?_
      refine tr_getR 8 h0 fl_X8_9 (by decide +kernel) dX8_takeFirst_45 ?_
      refine tr_iconst (v := 5) dX8_takeFirst_48 (by decide +kernel) ?_
      refine tr_c_wv (ms_cV (rest := []) (al := [.int 5]) 9 (sp_X9_fail G hG (d - 1) (by omega) s2 (ms_rf l0 0) 5 (rk_8_0 h0)) (rk_8_0 h0) (by decide +kernel) kl_X8_52 fv_X9_fail dX8_takeFirst_49 (show _ = some 1 by decide +kernel) (by omega) (Nat.le_of_ble_eq_true rfl) (by decide) (by decide)) (fun s6 => ?_)
      refine tr_aload_n (i := 0) dX8_takeFirst_52 rfl ?_
      refine tr_getR 8 h0 fl_X8_9 (by decide +kernel) dX8_takeFirst_53 ?_
      refine tr_c_wv (ms_cV (rest := []) (al := []) 9 (sp_X9_advance G hG (d - 1) (by omega) s6 (ms_rf l0 0) (rk_8_0 h0)) (rk_8_0 h0) (by decide +kernel) kl_X8_62 fv_X9_advance dX8_takeFirst_56 (show _ = some 0 by decide +kernel) (by omega) (Nat.le_of_ble_eq_true rfl) (by decide) (by decide)) (fun s7 => ?_)
      refine tr_iload_n (i := 1) dX8_takeFirst_59 rfl ?_
      exact tr_iret rfl rfl (by decide) (by decide) dX8_takeFirst_60
  · refine tr_aload_n (i := 0) dX8_takeFirst_17 rfl ?_
    refine tr_getR 8 h0 fl_X8_9 (by decide +kernel) dX8_takeFirst_18 ?_
    refine tr_iconst (v := 4) dX8_takeFirst_21 (by decide +kernel) ?_
    refine tr_c_wv (ms_cV (rest := []) (al := [.int 4]) 9 (sp_X9_fail G hG (d - 1) (by omega) s2 (ms_rf l0 0) 4 (rk_8_0 h0)) (rk_8_0 h0) (by decide +kernel) kl_X8_52 fv_X9_fail dX8_takeFirst_22 (show _ = some 1 by decide +kernel) (by omega) (Nat.le_of_ble_eq_true rfl) (by decide) (by decide)) (fun s8 => ?_)
    refine tr_goto (tgt := 52) dX8_takeFirst_25 (by decide) ?_
    refine tr_aload_n (i := 0) dX8_takeFirst_52 rfl ?_
    refine tr_getR 8 h0 fl_X8_9 (by decide +kernel) dX8_takeFirst_53 ?_
    refine tr_c_wv (ms_cV (rest := []) (al := []) 9 (sp_X9_advance G hG (d - 1) (by omega) s8 (ms_rf l0 0) (rk_8_0 h0)) (rk_8_0 h0) (by decide +kernel) kl_X8_62 fv_X9_advance dX8_takeFirst_56 (show _ = some 0 by decide +kernel) (by omega) (Nat.le_of_ble_eq_true rfl) (by decide) (by decide)) (fun s9 => ?_)
    refine tr_iload_n (i := 1) dX8_takeFirst_59 rfl ?_
    exact tr_iret rfl rfl (by decide) (by decide) dX8_takeFirst_60
theorem dX8_takeSecond_0 : decode cX8_takeSecond 0 = .ok (.aload_n 0, 1) := by decide +kernel
theorem dX8_takeSecond_1 : decode cX8_takeSecond 1 = .ok (.invokevirtual 183, 3) := by decide +kernel
theorem dX8_takeSecond_4 : decode cX8_takeSecond 4 = .ok (.istore_n 2, 1) := by decide +kernel
theorem dX8_takeSecond_5 : decode cX8_takeSecond 5 = .ok (.aload_n 0, 1) := by decide +kernel
theorem dX8_takeSecond_6 : decode cX8_takeSecond 6 = .ok (.getfield 18, 3) := by decide +kernel
theorem dX8_takeSecond_9 : decode cX8_takeSecond 9 = .ok (.iload_n 2, 1) := by decide +kernel
theorem dX8_takeSecond_10 : decode cX8_takeSecond 10 = .ok (.invokevirtual 186, 3) := by decide +kernel
theorem dX8_takeSecond_13 : decode cX8_takeSecond 13 = .ok (.iconst 1, 1) := by decide +kernel
theorem dX8_takeSecond_14 : decode cX8_takeSecond 14 = .ok (.if_icmp .eq 14, 3) := by decide +kernel
theorem dX8_takeSecond_17 : decode cX8_takeSecond 17 = .ok (.aload_n 0, 1) := by decide +kernel
theorem dX8_takeSecond_18 : decode cX8_takeSecond 18 = .ok (.getfield 9, 3) := by decide +kernel
theorem dX8_takeSecond_21 : decode cX8_takeSecond 21 = .ok (.iconst 4, 1) := by decide +kernel
theorem dX8_takeSecond_22 : decode cX8_takeSecond 22 = .ok (.invokevirtual 52, 3) := by decide +kernel
theorem dX8_takeSecond_25 : decode cX8_takeSecond 25 = .ok (.goto 24, 3) := by decide +kernel
theorem dX8_takeSecond_28 : decode cX8_takeSecond 28 = .ok (.aload_n 0, 1) := by decide +kernel
theorem dX8_takeSecond_29 : decode cX8_takeSecond 29 = .ok (.getfield 18, 3) := by decide +kernel
theorem dX8_takeSecond_32 : decode cX8_takeSecond 32 = .ok (.iload_n 1, 1) := by decide +kernel
theorem dX8_takeSecond_33 : decode cX8_takeSecond 33 = .ok (.iload_n 2, 1) := by decide +kernel
theorem dX8_takeSecond_34 : decode cX8_takeSecond 34 = .ok (.invokevirtual 192, 3) := by decide +kernel
theorem dX8_takeSecond_37 : decode cX8_takeSecond 37 = .ok (.iconst (-1), 1) := by decide +kernel
theorem dX8_takeSecond_38 : decode cX8_takeSecond 38 = .ok (.if_icmp .eq 11, 3) := by decide +kernel
theorem dX8_takeSecond_41 : decode cX8_takeSecond 41 = .ok (.aload_n 0, 1) := by decide +kernel
theorem dX8_takeSecond_42 : decode cX8_takeSecond 42 = .ok (.getfield 9, 3) := by decide +kernel
theorem dX8_takeSecond_45 : decode cX8_takeSecond 45 = .ok (.iconst 3, 1) := by decide +kernel
theorem dX8_takeSecond_46 : decode cX8_takeSecond 46 = .ok (.invokevirtual 52, 3) := by decide +kernel
theorem dX8_takeSecond_49 : decode cX8_takeSecond 49 = .ok (.aload_n 0, 1) := by decide +kernel
theorem dX8_takeSecond_50 : decode cX8_takeSecond 50 = .ok (.getfield 9, 3) := by decide +kernel
theorem dX8_takeSecond_53 : decode cX8_takeSecond 53 = .ok (.invokevirtual 62, 3) := by decide +kernel
theorem dX8_takeSecond_56 : decode cX8_takeSecond 56 = .ok (.iload_n 2, 1) := by decide +kernel
theorem dX8_takeSecond_57 : decode cX8_takeSecond 57 = .ok (.ireturn, 1) := by decide +kernel
set_option maxRecDepth 100000 in
theorem sp_X8_takeSecond (G : MG) (hG : (g_l G).stackTraces = false) (d : Nat) (hd : 7 ≤ d)   (σ : MsSt) (l0 : Nat) (l1 : Int32) (h0 : ms_kd l0 = 9) : MsSpec G mX8_takeSecond d 0 0 [.ref l0, .int l1] σ ms_wi (f_X8_takeSecond σ l0 l1) := by
  refine ms_start (by decide +kernel) rfl rfl (Nat.le_of_ble_eq_true rfl) ?_
  show TrO G mX8_takeSecond d 0 0 0 0 ms_wi 0 [(0, .ref l0), (1, .int l1)] [] σ (ms_b2 (f_X8_findSign σ l0) fun v1 s2 => (f_X6_kindOf s2 (ms_rf l0 1) v1).bind fun v3 => if v3 = 1 then (f_X6_findPair s2 (ms_rf l0 1) l1 v1).bind fun v4 => if v4 = (-1) then (f_X9_advance s2 (ms_rf l0 0)).bind fun s5 => some (v1, s5) else (f_X9_fail s2 (ms_rf l0 0) 3).bind fun s6 => (f_X9_advance s6 (ms_rf l0 0)).bind fun s7 => some (v1, s7) else (f_X9_fail s2 (ms_rf l0 0) 4).bind fun s8 => (f_X9_advance s8 (ms_rf l0 0)).bind fun s9 => some (v1, s9))
  refine tr_aload_n (i := 0) dX8_takeSecond_0 rfl ?_
  refine tr_d_wi (ms_cV (rest := []) (al := []) 8 (sp_X8_findSign G hG (d - 1) (by omega) σ l0 h0) h0 (by decide +kernel) kl_X8_183 fv_X8_findSign dX8_takeSecond_1 (show _ = some 0 by decide +kernel) (by omega) (Nat.le_of_ble_eq_true rfl) (by decide) (by decide)) (fun v1 s2 => ?_)
  refine tr_istore_n (lv' := [(0, .ref l0), (1, .int l1), (2, .int v1)]) [1, 2, 0] dX8_takeSecond_4 (by decide) rfl ?_
  refine tr_aload_n (i := 0) dX8_takeSecond_5 rfl ?_
  refine tr_getR 8 h0 fl_X8_18 (by decide +kernel) dX8_takeSecond_6 ?_
  refine tr_iload_n (i := 2) dX8_takeSecond_9 rfl ?_
  refine tr_c_i (ms_cV (rest := []) (al := [.int v1]) 6 (sp_X6_kindOf G hG (d - 1) (by omega) s2 (ms_rf l0 1) v1 (rk_8_1 h0)) (rk_8_1 h0) (by decide +kernel) kl_X8_186 fv_X6_kindOf dX8_takeSecond_10 (show _ = some 1 by decide +kernel) (by omega) (Nat.le_of_ble_eq_true rfl) (by decide) (by decide)) (fun v3 => ?_)
  refine tr_iconst (v := 1) dX8_takeSecond_13 (by decide +kernel) ?_
  refine tr_iceq (o := none) (tgt := 28) dX8_takeSecond_14 (by decide) ?_ ?_
  · refine tr_aload_n (i := 0) dX8_takeSecond_28 rfl ?_
    refine tr_getR 8 h0 fl_X8_18 (by decide +kernel) dX8_takeSecond_29 ?_
    refine tr_iload_n (i := 1) dX8_takeSecond_32 rfl ?_
    refine tr_iload_n (i := 2) dX8_takeSecond_33 rfl ?_
    refine tr_c_i (ms_cV (rest := []) (al := [.int l1, .int v1]) 6 (sp_X6_findPair G hG (d - 1) (by omega) s2 (ms_rf l0 1) l1 v1 (rk_8_1 h0)) (rk_8_1 h0) (by decide +kernel) kl_X8_192 fv_X6_findPair dX8_takeSecond_34 (show _ = some 2 by decide +kernel) (by omega) (Nat.le_of_ble_eq_true rfl) (by decide) (by decide)) (fun v4 => ?_)
    refine tr_iconst (v := (-1)) dX8_takeSecond_37 (by decide +kernel) ?_
    refine tr_iceq (o := none) (tgt := 49) dX8_takeSecond_38 (by decide) ?_ ?_
    · refine tr_aload_n (i := 0) dX8_takeSecond_49 rfl ?_
      refine tr_getR 8 h0 fl_X8_9 (by decide +kernel) dX8_takeSecond_50 ?_
      refine tr_c_wv (ms_cV (rest := []) (al := []) 9 (sp_X9_advance G hG (d - 1) (by omega) s2 (ms_rf l0 0) (rk_8_0 h0)) (rk_8_0 h0) (by decide +kernel) kl_X8_62 fv_X9_advance dX8_takeSecond_53 (show _ = some 0 by decide +kernel) (by omega) (Nat.le_of_ble_eq_true rfl) (by decide) (by decide)) (fun s5 => ?_)
      refine tr_iload_n (i := 2) dX8_takeSecond_56 rfl ?_
      exact tr_iret rfl rfl (by decide) (by decide) dX8_takeSecond_57
    · refine tr_aload_n (i := 0) dX8_takeSecond_41 rfl ?_
      refine tr_getR 8 h0 fl_X8_9 (by decide +kernel) dX8_takeSecond_42 ?_
      refine tr_iconst (v := 3) dX8_takeSecond_45 (by decide +kernel) ?_
      refine tr_c_wv (ms_cV (rest := []) (al := [.int 3]) 9 (sp_X9_fail G hG (d - 1) (by omega) s2 (ms_rf l0 0) 3 (rk_8_0 h0)) (rk_8_0 h0) (by decide +kernel) kl_X8_52 fv_X9_fail dX8_takeSecond_46 (show _ = some 1 by decide +kernel) (by omega) (Nat.le_of_ble_eq_true rfl) (by decide) (by decide)) (fun s6 => ?_)
      refine tr_aload_n (i := 0) dX8_takeSecond_49 rfl ?_
      refine tr_getR 8 h0 fl_X8_9 (by decide +kernel) dX8_takeSecond_50 ?_
      refine tr_c_wv (ms_cV (rest := []) (al := []) 9 (sp_X9_advance G hG (d - 1) (by omega) s6 (ms_rf l0 0) (rk_8_0 h0)) (rk_8_0 h0) (by decide +kernel) kl_X8_62 fv_X9_advance dX8_takeSecond_53 (show _ = some 0 by decide +kernel) (by omega) (Nat.le_of_ble_eq_true rfl) (by decide) (by decide)) (fun s7 => ?_)
      refine tr_iload_n (i := 2) dX8_takeSecond_56 rfl ?_
      exact tr_iret rfl rfl (by decide) (by decide) dX8_takeSecond_57
  · refine tr_aload_n (i := 0) dX8_takeSecond_17 rfl ?_
    refine tr_getR 8 h0 fl_X8_9 (by decide +kernel) dX8_takeSecond_18 ?_
    refine tr_iconst (v := 4) dX8_takeSecond_21 (by decide +kernel) ?_
    refine tr_c_wv (ms_cV (rest := []) (al := [.int 4]) 9 (sp_X9_fail G hG (d - 1) (by omega) s2 (ms_rf l0 0) 4 (rk_8_0 h0)) (rk_8_0 h0) (by decide +kernel) kl_X8_52 fv_X9_fail dX8_takeSecond_22 (show _ = some 1 by decide +kernel) (by omega) (Nat.le_of_ble_eq_true rfl) (by decide) (by decide)) (fun s8 => ?_)
    refine tr_goto (tgt := 49) dX8_takeSecond_25 (by decide) ?_
    refine tr_aload_n (i := 0) dX8_takeSecond_49 rfl ?_
    refine tr_getR 8 h0 fl_X8_9 (by decide +kernel) dX8_takeSecond_50 ?_
    refine tr_c_wv (ms_cV (rest := []) (al := []) 9 (sp_X9_advance G hG (d - 1) (by omega) s8 (ms_rf l0 0) (rk_8_0 h0)) (rk_8_0 h0) (by decide +kernel) kl_X8_62 fv_X9_advance dX8_takeSecond_53 (show _ = some 0 by decide +kernel) (by omega) (Nat.le_of_ble_eq_true rfl) (by decide) (by decide)) (fun s9 => ?_)
    refine tr_iload_n (i := 2) dX8_takeSecond_56 rfl ?_
    exact tr_iret rfl rfl (by decide) (by decide) dX8_takeSecond_57
theorem dX8_readPair_0 : decode cX8_readPair 0 = .ok (.aload_n 0, 1) := by decide +kernel
theorem dX8_readPair_1 : decode cX8_readPair 1 = .ok (.iconst 2, 1) := by decide +kernel
theorem dX8_readPair_2 : decode cX8_readPair 2 = .ok (.invokevirtual 114, 3) := by decide +kernel
theorem dX8_readPair_5 : decode cX8_readPair 5 = .ok (.astore_n 1, 1) := by decide +kernel
theorem dX8_readPair_6 : decode cX8_readPair 6 = .ok (.aload_n 1, 1) := by decide +kernel
theorem dX8_readPair_7 : decode cX8_readPair 7 = .ok (.aload_n 0, 1) := by decide +kernel
theorem dX8_readPair_8 : decode cX8_readPair 8 = .ok (.invokevirtual 156, 3) := by decide +kernel
theorem dX8_readPair_11 : decode cX8_readPair 11 = .ok (.putfield 159, 3) := by decide +kernel
theorem dX8_readPair_14 : decode cX8_readPair 14 = .ok (.aload_n 1, 1) := by decide +kernel
theorem dX8_readPair_15 : decode cX8_readPair 15 = .ok (.aload_n 0, 1) := by decide +kernel
theorem dX8_readPair_16 : decode cX8_readPair 16 = .ok (.aload_n 1, 1) := by decide +kernel
theorem dX8_readPair_17 : decode cX8_readPair 17 = .ok (.getfield 159, 3) := by decide +kernel
theorem dX8_readPair_20 : decode cX8_readPair 20 = .ok (.invokevirtual 162, 3) := by decide +kernel
theorem dX8_readPair_23 : decode cX8_readPair 23 = .ok (.putfield 165, 3) := by decide +kernel
theorem dX8_readPair_26 : decode cX8_readPair 26 = .ok (.aload_n 1, 1) := by decide +kernel
theorem dX8_readPair_27 : decode cX8_readPair 27 = .ok (.getfield 168, 3) := by decide +kernel
theorem dX8_readPair_30 : decode cX8_readPair 30 = .ok (.aload_n 0, 1) := by decide +kernel
theorem dX8_readPair_31 : decode cX8_readPair 31 = .ok (.getfield 18, 3) := by decide +kernel
theorem dX8_readPair_34 : decode cX8_readPair 34 = .ok (.aload_n 1, 1) := by decide +kernel
theorem dX8_readPair_35 : decode cX8_readPair 35 = .ok (.getfield 159, 3) := by decide +kernel
theorem dX8_readPair_38 : decode cX8_readPair 38 = .ok (.invokevirtual 91, 3) := by decide +kernel
theorem dX8_readPair_41 : decode cX8_readPair 41 = .ok (.getfield 168, 3) := by decide +kernel
theorem dX8_readPair_44 : decode cX8_readPair 44 = .ok (.invokevirtual 172, 3) := by decide +kernel
theorem dX8_readPair_47 : decode cX8_readPair 47 = .ok (.aload_n 1, 1) := by decide +kernel
theorem dX8_readPair_48 : decode cX8_readPair 48 = .ok (.aload_n 1, 1) := by decide +kernel
theorem dX8_readPair_49 : decode cX8_readPair 49 = .ok (.getfield 165, 3) := by decide +kernel
theorem dX8_readPair_52 : decode cX8_readPair 52 = .ok (.invokevirtual 129, 3) := by decide +kernel
theorem dX8_readPair_55 : decode cX8_readPair 55 = .ok (.aload_n 0, 1) := by decide +kernel
theorem dX8_readPair_56 : decode cX8_readPair 56 = .ok (.getfield 9, 3) := by decide +kernel
theorem dX8_readPair_59 : decode cX8_readPair 59 = .ok (.ldc 178, 2) := by decide +kernel
theorem dX8_readPair_61 : decode cX8_readPair 61 = .ok (.invokevirtual 37, 3) := by decide +kernel
theorem dX8_readPair_64 : decode cX8_readPair 64 = .ok (.ifCond .eq 15, 3) := by decide +kernel
theorem dX8_readPair_67 : decode cX8_readPair 67 = .ok (.aload_n 1, 1) := by decide +kernel
theorem dX8_readPair_68 : decode cX8_readPair 68 = .ok (.iconst 1, 1) := by decide +kernel
theorem dX8_readPair_69 : decode cX8_readPair 69 = .ok (.putfield 180, 3) := by decide +kernel
theorem dX8_readPair_72 : decode cX8_readPair 72 = .ok (.aload_n 0, 1) := by decide +kernel
theorem dX8_readPair_73 : decode cX8_readPair 73 = .ok (.getfield 9, 3) := by decide +kernel
theorem dX8_readPair_76 : decode cX8_readPair 76 = .ok (.invokevirtual 62, 3) := by decide +kernel
theorem dX8_readPair_79 : decode cX8_readPair 79 = .ok (.aload_n 0, 1) := by decide +kernel
theorem dX8_readPair_80 : decode cX8_readPair 80 = .ok (.invokevirtual 132, 3) := by decide +kernel
theorem dX8_readPair_83 : decode cX8_readPair 83 = .ok (.return_, 1) := by decide +kernel
set_option maxRecDepth 100000 in
theorem sp_X8_readPair (G : MG) (hG : (g_l G).stackTraces = false) (d : Nat) (hd : 8 ≤ d)   (σ : MsSt) (l0 : Nat) (h0 : ms_kd l0 = 9) : MsSpec G mX8_readPair d 0 0 [.ref l0] σ ms_wv (f_X8_readPair σ l0) := by
  refine ms_start (by decide +kernel) rfl rfl (Nat.le_of_ble_eq_true rfl) ?_
  show TrO G mX8_readPair d 0 0 0 0 ms_wv 0 [(0, .ref l0)] [] σ (ms_b2 (f_X8_beginSign σ l0 2) fun v1 s2 => ms_b2 (f_X8_takeFirst s2 l0) fun v3 s4 => ms_nm (ms_si s4 v1 11 v3) fun s5 => ms_b2 (f_X8_takeSecond s5 l0 (ms_i s5 v1 11)) fun v6 s7 => ms_nm (ms_si s7 v1 12 v6) fun s8 => (f_X6_told s8 (ms_rf l0 1) (ms_i s8 v1 11)).bind fun v9 => (f_X5_takeOver s8 (ms_rf v1 0) (ms_rf v9 0)).bind fun s10 => (f_X7_addPart s10 v1 (ms_i s10 v1 12)).bind fun s11 => (f_X9_isWord s11 (ms_rf l0 0) 612).bind fun v12 => if v12 = 0 then (f_X8_endSign s11 l0).bind fun s13 => some s13 else ms_nm (ms_si s11 v1 13 1) fun s14 => (f_X9_advance s14 (ms_rf l0 0)).bind fun s15 => (f_X8_endSign s15 l0).bind fun s16 => some s16)
  refine tr_aload_n (i := 0) dX8_readPair_0 rfl ?_
  refine tr_iconst (v := 2) dX8_readPair_1 (by decide +kernel) ?_
  refine tr_d_wa (ms_cV (rest := []) (al := [.int 2]) 8 (sp_X8_beginSign G hG (d - 1) (by omega) σ l0 2 h0) h0 (by decide +kernel) kl_X8_114 fv_X8_beginSign dX8_readPair_2 (show _ = some 1 by decide +kernel) (by omega) (Nat.le_of_ble_eq_true rfl) (by decide) (by decide)) (fun v1 s2 e_v1 => ?_)
  refine tr_astore_n (lv' := [(0, .ref l0), (1, .ref v1)]) [1, 0] dX8_readPair_5 (by decide) rfl ?_
  refine tr_aload_n (i := 1) dX8_readPair_6 rfl ?_
  refine tr_aload_n (i := 0) dX8_readPair_7 rfl ?_
  refine tr_d_wi (ms_cV (rest := [.ref v1]) (al := []) 8 (sp_X8_takeFirst G hG (d - 1) (by omega) s2 l0 h0) h0 (by decide +kernel) kl_X8_156 fv_X8_takeFirst dX8_readPair_8 (show _ = some 0 by decide +kernel) (by omega) (Nat.le_of_ble_eq_true rfl) (by decide) (by decide)) (fun v3 s4 => ?_)
  refine tr_putI 7 (ra_X8_beginSign h0 e_v1) fl_X8_159 (by decide +kernel) dX8_readPair_11 ?_
  refine ms_ltS (fun s5 => ?_)
  refine tr_aload_n (i := 1) dX8_readPair_14 rfl ?_
  refine tr_aload_n (i := 0) dX8_readPair_15 rfl ?_
  refine tr_aload_n (i := 1) dX8_readPair_16 rfl ?_
  refine tr_getI 7 (ra_X8_beginSign h0 e_v1) fl_X8_159 (by decide +kernel) dX8_readPair_17 ?_
  refine tr_d_wi (ms_cV (rest := [.ref v1]) (al := [.int (ms_i s5 v1 11)]) 8 (sp_X8_takeSecond G hG (d - 1) (by omega) s5 l0 (ms_i s5 v1 11) h0) h0 (by decide +kernel) kl_X8_162 fv_X8_takeSecond dX8_readPair_20 (show _ = some 1 by decide +kernel) (by omega) (Nat.le_of_ble_eq_true rfl) (by decide) (by decide)) (fun v6 s7 => ?_)
  refine tr_putI 7 (ra_X8_beginSign h0 e_v1) fl_X8_165 (by decide +kernel) dX8_readPair_23 ?_
  refine ms_ltS (fun s8 => ?_)
  refine tr_aload_n (i := 1) dX8_readPair_26 rfl ?_
  refine tr_getR 7 (ra_X8_beginSign h0 e_v1) fl_X8_168 (by decide +kernel) dX8_readPair_27 ?_
  refine tr_aload_n (i := 0) dX8_readPair_30 rfl ?_
  refine tr_getR 8 h0 fl_X8_18 (by decide +kernel) dX8_readPair_31 ?_
  refine tr_aload_n (i := 1) dX8_readPair_34 rfl ?_
  refine tr_getI 7 (ra_X8_beginSign h0 e_v1) fl_X8_159 (by decide +kernel) dX8_readPair_35 ?_
  refine tr_c_a (ms_cV (rest := [.ref (ms_rf v1 0)]) (al := [.int (ms_i s8 v1 11)]) 6 (sp_X6_told G hG (d - 1) (by omega) s8 (ms_rf l0 1) (ms_i s8 v1 11) (rk_8_1 h0)) (rk_8_1 h0) (by decide +kernel) kl_X8_91 fv_X6_told dX8_readPair_38 (show _ = some 1 by decide +kernel) (by omega) (Nat.le_of_ble_eq_true rfl) (by decide) (by decide)) (fun v9 e_v9 => ?_)
  refine tr_getR 7 (ra_X6_told (rk_8_1 h0) e_v9) fl_X8_168 (by decide +kernel) dX8_readPair_41 ?_
  refine tr_c_wv (ms_cV (rest := []) (al := [.ref (ms_rf v9 0)]) 5 (sp_X5_takeOver G hG (d - 1) (by omega) s8 (ms_rf v1 0) (ms_rf v9 0) (rk_7_0 (ra_X8_beginSign h0 e_v1)) (rk_7_0 (ra_X6_told (rk_8_1 h0) e_v9))) (rk_7_0 (ra_X8_beginSign h0 e_v1)) (by decide +kernel) kl_X8_172 fv_X5_takeOver dX8_readPair_44 (show _ = some 1 by decide +kernel) (by omega) (Nat.le_of_ble_eq_true rfl) (by decide) (by decide)) (fun s10 => ?_)
  refine tr_aload_n (i := 1) dX8_readPair_47 rfl ?_
  refine tr_aload_n (i := 1) dX8_readPair_48 rfl ?_
  refine tr_getI 7 (ra_X8_beginSign h0 e_v1) fl_X8_165 (by decide +kernel) dX8_readPair_49 ?_
  refine tr_c_wv (ms_cV (rest := []) (al := [.int (ms_i s10 v1 12)]) 7 (sp_X7_addPart G hG (d - 1) (by omega) s10 v1 (ms_i s10 v1 12) (ra_X8_beginSign h0 e_v1)) (ra_X8_beginSign h0 e_v1) (by decide +kernel) kl_X8_129 fv_X7_addPart dX8_readPair_52 (show _ = some 1 by decide +kernel) (by omega) (Nat.le_of_ble_eq_true rfl) (by decide) (by decide)) (fun s11 => ?_)
  refine tr_aload_n (i := 0) dX8_readPair_55 rfl ?_
  refine tr_getR 8 h0 fl_X8_9 (by decide +kernel) dX8_readPair_56 ?_
  refine tr_ldcs 12 (tx := "spare") (by decide) (by decide +kernel) dX8_readPair_59 ?_
  refine tr_c_i (ms_cV (rest := []) (al := [.ref 612]) 9 (sp_X9_isWord G hG (d - 1) (by omega) s11 (ms_rf l0 0) 612 (rk_8_0 h0) (⟨by decide, by decide⟩)) (rk_8_0 h0) (by decide +kernel) kl_X8_37 fv_X9_isWord dX8_readPair_61 (show _ = some 1 by decide +kernel) (by omega) (Nat.le_of_ble_eq_true rfl) (by decide) (by decide)) (fun v12 => ?_)
  refine tr_ifeq (o := none) (tgt := 79) dX8_readPair_64 (by decide) ?_ ?_
  · refine tr_aload_n (i := 0) dX8_readPair_79 rfl ?_
    refine tr_c_wv (ms_cV (rest := []) (al := []) 8 (sp_X8_endSign G hG (d - 1) (by omega) s11 l0 h0) h0 (by decide +kernel) kl_X8_132 fv_X8_endSign dX8_readPair_80 (show _ = some 0 by decide +kernel) (by omega) (Nat.le_of_ble_eq_true rfl) (by decide) (by decide)) (fun s13 => ?_)
    exact tr_vret rfl rfl (by decide) (by decide) dX8_readPair_83
  · refine tr_aload_n (i := 1) dX8_readPair_67 rfl ?_
    refine tr_iconst (v := 1) dX8_readPair_68 (by decide +kernel) ?_
    refine tr_putB 7 (ra_X8_beginSign h0 e_v1) fl_X8_180 (by decide +kernel) (by decide) dX8_readPair_69 ?_
    refine ms_ltS (fun s14 => ?_)
    refine tr_aload_n (i := 0) dX8_readPair_72 rfl ?_
    refine tr_getR 8 h0 fl_X8_9 (by decide +kernel) dX8_readPair_73 ?_
    refine tr_c_wv (ms_cV (rest := []) (al := []) 9 (sp_X9_advance G hG (d - 1) (by omega) s14 (ms_rf l0 0) (rk_8_0 h0)) (rk_8_0 h0) (by decide +kernel) kl_X8_62 fv_X9_advance dX8_readPair_76 (show _ = some 0 by decide +kernel) (by omega) (Nat.le_of_ble_eq_true rfl) (by decide) (by decide)) (fun s15 => ?_)
    refine tr_aload_n (i := 0) dX8_readPair_79 rfl ?_
    refine tr_c_wv (ms_cV (rest := []) (al := []) 8 (sp_X8_endSign G hG (d - 1) (by omega) s15 l0 h0) h0 (by decide +kernel) kl_X8_132 fv_X8_endSign dX8_readPair_80 (show _ = some 0 by decide +kernel) (by omega) (Nat.le_of_ble_eq_true rfl) (by decide) (by decide)) (fun s16 => ?_)
    exact tr_vret rfl rfl (by decide) (by decide) dX8_readPair_83
theorem dX8_readLine_0 : decode cX8_readLine 0 = .ok (.aload_n 0, 1) := by decide +kernel
theorem dX8_readLine_1 : decode cX8_readLine 1 = .ok (.getfield 9, 3) := by decide +kernel
theorem dX8_readLine_4 : decode cX8_readLine 4 = .ok (.invokevirtual 62, 3) := by decide +kernel
theorem dX8_readLine_7 : decode cX8_readLine 7 = .ok (.aload_n 0, 1) := by decide +kernel
theorem dX8_readLine_8 : decode cX8_readLine 8 = .ok (.getfield 18, 3) := by decide +kernel
theorem dX8_readLine_11 : decode cX8_readLine 11 = .ok (.aload_n 0, 1) := by decide +kernel
theorem dX8_readLine_12 : decode cX8_readLine 12 = .ok (.getfield 18, 3) := by decide +kernel
theorem dX8_readLine_15 : decode cX8_readLine 15 = .ok (.getfield 65, 3) := by decide +kernel
theorem dX8_readLine_18 : decode cX8_readLine 18 = .ok (.invokevirtual 195, 3) := by decide +kernel
theorem dX8_readLine_21 : decode cX8_readLine 21 = .ok (.astore_n 1, 1) := by decide +kernel
theorem dX8_readLine_22 : decode cX8_readLine 22 = .ok (.iconst 0, 1) := by decide +kernel
theorem dX8_readLine_23 : decode cX8_readLine 23 = .ok (.istore_n 2, 1) := by decide +kernel
theorem dX8_readLine_24 : decode cX8_readLine 24 = .ok (.iload_n 2, 1) := by decide +kernel
theorem dX8_readLine_25 : decode cX8_readLine 25 = .ok (.bipush 60, 2) := by decide +kernel
theorem dX8_readLine_27 : decode cX8_readLine 27 = .ok (.if_icmp .gt 54, 3) := by decide +kernel
theorem dX8_readLine_30 : decode cX8_readLine 30 = .ok (.aload_n 0, 1) := by decide +kernel
theorem dX8_readLine_31 : decode cX8_readLine 31 = .ok (.getfield 9, 3) := by decide +kernel
theorem dX8_readLine_34 : decode cX8_readLine 34 = .ok (.getfield 199, 3) := by decide +kernel
theorem dX8_readLine_37 : decode cX8_readLine 37 = .ok (.iconst 1, 1) := by decide +kernel
theorem dX8_readLine_38 : decode cX8_readLine 38 = .ok (.if_icmp .ne 43, 3) := by decide +kernel
theorem dX8_readLine_41 : decode cX8_readLine 41 = .ok (.aload_n 0, 1) := by decide +kernel
theorem dX8_readLine_42 : decode cX8_readLine 42 = .ok (.invokevirtual 183, 3) := by decide +kernel
theorem dX8_readLine_45 : decode cX8_readLine 45 = .ok (.istore_n 3, 1) := by decide +kernel
theorem dX8_readLine_46 : decode cX8_readLine 46 = .ok (.aload_n 1, 1) := by decide +kernel
theorem dX8_readLine_47 : decode cX8_readLine 47 = .ok (.getfield 202, 3) := by decide +kernel
theorem dX8_readLine_50 : decode cX8_readLine 50 = .ok (.bipush 60, 2) := by decide +kernel
theorem dX8_readLine_52 : decode cX8_readLine 52 = .ok (.if_icmp .lt 11, 3) := by decide +kernel
theorem dX8_readLine_55 : decode cX8_readLine 55 = .ok (.aload_n 0, 1) := by decide +kernel
theorem dX8_readLine_56 : decode cX8_readLine 56 = .ok (.getfield 9, 3) := by decide +kernel
theorem dX8_readLine_59 : decode cX8_readLine 59 = .ok (.iconst 5, 1) := by decide +kernel
theorem dX8_readLine_60 : decode cX8_readLine 60 = .ok (.invokevirtual 52, 3) := by decide +kernel
theorem dX8_readLine_63 : decode cX8_readLine 63 = .ok (.aload_n 1, 1) := by decide +kernel
theorem dX8_readLine_64 : decode cX8_readLine 64 = .ok (.iload_n 3, 1) := by decide +kernel
theorem dX8_readLine_65 : decode cX8_readLine 65 = .ok (.invokevirtual 205, 3) := by decide +kernel
theorem dX8_readLine_68 : decode cX8_readLine 68 = .ok (.aload_n 0, 1) := by decide +kernel
theorem dX8_readLine_69 : decode cX8_readLine 69 = .ok (.getfield 9, 3) := by decide +kernel
theorem dX8_readLine_72 : decode cX8_readLine 72 = .ok (.invokevirtual 62, 3) := by decide +kernel
theorem dX8_readLine_75 : decode cX8_readLine 75 = .ok (.iinc 2 1, 3) := by decide +kernel
theorem dX8_readLine_78 : decode cX8_readLine 78 = .ok (.goto (-54), 3) := by decide +kernel
theorem dX8_readLine_81 : decode cX8_readLine 81 = .ok (.aload_n 0, 1) := by decide +kernel
theorem dX8_readLine_82 : decode cX8_readLine 82 = .ok (.getfield 9, 3) := by decide +kernel
theorem dX8_readLine_85 : decode cX8_readLine 85 = .ok (.bipush 59, 2) := by decide +kernel
theorem dX8_readLine_87 : decode cX8_readLine 87 = .ok (.invokevirtual 76, 3) := by decide +kernel
theorem dX8_readLine_90 : decode cX8_readLine 90 = .ok (.aload_n 0, 1) := by decide +kernel
theorem dX8_readLine_91 : decode cX8_readLine 91 = .ok (.getfield 18, 3) := by decide +kernel
theorem dX8_readLine_94 : decode cX8_readLine 94 = .ok (.dup, 1) := by decide +kernel
theorem dX8_readLine_95 : decode cX8_readLine 95 = .ok (.getfield 65, 3) := by decide +kernel
theorem dX8_readLine_98 : decode cX8_readLine 98 = .ok (.iconst 1, 1) := by decide +kernel
theorem dX8_readLine_99 : decode cX8_readLine 99 = .ok (.iadd, 1) := by decide +kernel
theorem dX8_readLine_100 : decode cX8_readLine 100 = .ok (.putfield 65, 3) := by decide +kernel
theorem dX8_readLine_103 : decode cX8_readLine 103 = .ok (.return_, 1) := by decide +kernel
set_option maxRecDepth 100000 in
theorem t_X8_readLine_81 (G : MG) (hG : (g_l G).stackTraces = false) (d : Nat) (hd : 7 ≤ d)    (σ : MsSt) (l0 : Nat) (h0 : ms_kd l0 = 9) : TrO G mX8_readLine d 0 0 0 0 ms_wv 81 [(0, .ref l0)] [] σ (f_X8_readLine_81 σ l0) := by
  show TrO G mX8_readLine d 0 0 0 0 ms_wv 81 [(0, .ref l0)] [] σ ((f_X9_takeSymbol σ (ms_rf l0 0) 59).bind fun s3 => ms_nm (ms_si s3 (ms_rf l0 1) 5 ((ms_i s3 (ms_rf l0 1) 5) + 1)) fun s4 => some s4)
  refine tr_aload_n (i := 0) dX8_readLine_81 rfl ?_
  refine tr_getR 8 h0 fl_X8_9 (by decide +kernel) dX8_readLine_82 ?_
  refine tr_bipush (v := 59) dX8_readLine_85 (by decide +kernel) ?_
  refine tr_c_wv (ms_cV (rest := []) (al := [.int 59]) 9 (sp_X9_takeSymbol G hG (d - 1) (by omega) σ (ms_rf l0 0) 59 (rk_8_0 h0)) (rk_8_0 h0) (by decide +kernel) kl_X8_76 fv_X9_takeSymbol dX8_readLine_87 (show _ = some 1 by decide +kernel) (by omega) (Nat.le_of_ble_eq_true rfl) (by decide) (by decide)) (fun s3 => ?_)
  refine tr_aload_n (i := 0) dX8_readLine_90 rfl ?_
  refine tr_getR 8 h0 fl_X8_18 (by decide +kernel) dX8_readLine_91 ?_
  refine tr_dup dX8_readLine_94 rfl ?_
  refine tr_getI 6 (rk_8_1 h0) fl_X8_65 (by decide +kernel) dX8_readLine_95 ?_
  refine tr_iconst (v := 1) dX8_readLine_98 (by decide +kernel) ?_
  refine tr_iadd dX8_readLine_99 ?_
  refine tr_putI 6 (rk_8_1 h0) fl_X8_65 (by decide +kernel) dX8_readLine_100 ?_
  refine ms_ltS (fun s4 => ?_)
  exact tr_vret rfl rfl (by decide) (by decide) dX8_readLine_103
set_option maxRecDepth 100000 in
theorem t_X8_readLine_24 (G : MG) (hG : (g_l G).stackTraces = false) (d : Nat) (hd : 7 ≤ d)    : ∀ (n : Nat) (σ : MsSt) (l0 : Nat) (l1 : Nat) (l2 : Int32) (h0 : ms_kd l0 = 9) (h1 : ms_kd l1 = 6), TrO G mX8_readLine d 0 0 0 0 ms_wv 24 [(0, .ref l0), (1, .ref l1), (2, .int l2)] [] σ (f_X8_readLine_24 n σ l0 l1 l2) := by
  intro n
  induction n with
  | zero => exact fun _ _ _ _ _ _ => tr_none
  | succ n ih =>
    intro σ l0 l1 l2 h0 h1
    show TrO G mX8_readLine d 0 0 0 0 ms_wv 24 [(0, .ref l0), (1, .ref l1), (2, .int l2)] [] σ (if 60 < l2 then f_X8_readLine_81 σ l0 else if (ms_i σ (ms_rf l0 0) 5) = 1 then ms_b2 (f_X8_findSign σ l0) fun v5 s6 => if (ms_i s6 l1 1) < 60 then (f_X5_add s6 l1 v5).bind fun s7 => (f_X9_advance s7 (ms_rf l0 0)).bind fun s8 => (f_X8_readLine_24 n) s8 l0 l1 (l2 + 1) else (f_X9_fail s6 (ms_rf l0 0) 5).bind fun s9 => (f_X5_add s9 l1 v5).bind fun s10 => (f_X9_advance s10 (ms_rf l0 0)).bind fun s11 => (f_X8_readLine_24 n) s11 l0 l1 (l2 + 1) else f_X8_readLine_81 σ l0)
    refine tr_iload_n (i := 2) dX8_readLine_24 rfl ?_
    refine tr_bipush (v := 60) dX8_readLine_25 (by decide +kernel) ?_
    refine tr_icgt (o := none) (tgt := 81) dX8_readLine_27 (by decide) ?_ ?_
    · refine tr_weak [0] (lv' := [(0, .ref l0)]) rfl ?_
      exact t_X8_readLine_81 G hG d hd σ l0 h0
    · refine tr_aload_n (i := 0) dX8_readLine_30 rfl ?_
      refine tr_getR 8 h0 fl_X8_9 (by decide +kernel) dX8_readLine_31 ?_
      refine tr_getI 9 (rk_8_0 h0) fl_X8_199 (by decide +kernel) dX8_readLine_34 ?_
      refine tr_iconst (v := 1) dX8_readLine_37 (by decide +kernel) ?_
      refine tr_icne (o := none) (tgt := 81) dX8_readLine_38 (by decide) ?_ ?_
      · refine tr_weak [0] (lv' := [(0, .ref l0)]) rfl ?_
        exact t_X8_readLine_81 G hG d hd σ l0 h0
      · refine tr_aload_n (i := 0) dX8_readLine_41 rfl ?_
        refine tr_d_wi (ms_cV (rest := []) (al := []) 8 (sp_X8_findSign G hG (d - 1) (by omega) σ l0 h0) h0 (by decide +kernel) kl_X8_183 fv_X8_findSign dX8_readLine_42 (show _ = some 0 by decide +kernel) (by omega) (Nat.le_of_ble_eq_true rfl) (by decide) (by decide)) (fun v5 s6 => ?_)
        refine tr_istore_n (lv' := [(0, .ref l0), (1, .ref l1), (2, .int l2), (3, .int v5)]) [1, 2, 3, 0] dX8_readLine_45 (by decide) rfl ?_
        refine tr_aload_n (i := 1) dX8_readLine_46 rfl ?_
        refine tr_getI 5 h1 fl_X8_202 (by decide +kernel) dX8_readLine_47 ?_
        refine tr_bipush (v := 60) dX8_readLine_50 (by decide +kernel) ?_
        refine tr_iclt (o := none) (tgt := 63) dX8_readLine_52 (by decide) ?_ ?_
        · refine tr_aload_n (i := 1) dX8_readLine_63 rfl ?_
          refine tr_iload_n (i := 3) dX8_readLine_64 rfl ?_
          refine tr_c_wv (ms_cV (rest := []) (al := [.int v5]) 5 (sp_X5_add G hG (d - 1) (by omega) s6 l1 v5 h1) h1 (by decide +kernel) kl_X8_205 fv_X5_add dX8_readLine_65 (show _ = some 1 by decide +kernel) (by omega) (Nat.le_of_ble_eq_true rfl) (by decide) (by decide)) (fun s7 => ?_)
          refine tr_aload_n (i := 0) dX8_readLine_68 rfl ?_
          refine tr_getR 8 h0 fl_X8_9 (by decide +kernel) dX8_readLine_69 ?_
          refine tr_c_wv (ms_cV (rest := []) (al := []) 9 (sp_X9_advance G hG (d - 1) (by omega) s7 (ms_rf l0 0) (rk_8_0 h0)) (rk_8_0 h0) (by decide +kernel) kl_X8_62 fv_X9_advance dX8_readLine_72 (show _ = some 0 by decide +kernel) (by omega) (Nat.le_of_ble_eq_true rfl) (by decide) (by decide)) (fun s8 => ?_)
          refine tr_iinc (k := 2) (v := (l2 + 1)) (lv' := [(0, .ref l0), (1, .ref l1), (2, .int (l2 + 1))]) [1, 2, 0] dX8_readLine_75 rfl rfl (by decide) rfl ?_
          refine tr_goto (tgt := 24) dX8_readLine_78 (by decide) ?_
          exact (fun s y0 y1 y2 g0 g1 => ih s y0 y1 y2 g0 g1) s8 l0 l1 (l2 + 1) h0 h1
        · refine tr_aload_n (i := 0) dX8_readLine_55 rfl ?_
          refine tr_getR 8 h0 fl_X8_9 (by decide +kernel) dX8_readLine_56 ?_
          refine tr_iconst (v := 5) dX8_readLine_59 (by decide +kernel) ?_
          refine tr_c_wv (ms_cV (rest := []) (al := [.int 5]) 9 (sp_X9_fail G hG (d - 1) (by omega) s6 (ms_rf l0 0) 5 (rk_8_0 h0)) (rk_8_0 h0) (by decide +kernel) kl_X8_52 fv_X9_fail dX8_readLine_60 (show _ = some 1 by decide +kernel) (by omega) (Nat.le_of_ble_eq_true rfl) (by decide) (by decide)) (fun s9 => ?_)
          refine tr_aload_n (i := 1) dX8_readLine_63 rfl ?_
          refine tr_iload_n (i := 3) dX8_readLine_64 rfl ?_
          refine tr_c_wv (ms_cV (rest := []) (al := [.int v5]) 5 (sp_X5_add G hG (d - 1) (by omega) s9 l1 v5 h1) h1 (by decide +kernel) kl_X8_205 fv_X5_add dX8_readLine_65 (show _ = some 1 by decide +kernel) (by omega) (Nat.le_of_ble_eq_true rfl) (by decide) (by decide)) (fun s10 => ?_)
          refine tr_aload_n (i := 0) dX8_readLine_68 rfl ?_
          refine tr_getR 8 h0 fl_X8_9 (by decide +kernel) dX8_readLine_69 ?_
          refine tr_c_wv (ms_cV (rest := []) (al := []) 9 (sp_X9_advance G hG (d - 1) (by omega) s10 (ms_rf l0 0) (rk_8_0 h0)) (rk_8_0 h0) (by decide +kernel) kl_X8_62 fv_X9_advance dX8_readLine_72 (show _ = some 0 by decide +kernel) (by omega) (Nat.le_of_ble_eq_true rfl) (by decide) (by decide)) (fun s11 => ?_)
          refine tr_iinc (k := 2) (v := (l2 + 1)) (lv' := [(0, .ref l0), (1, .ref l1), (2, .int (l2 + 1))]) [1, 2, 0] dX8_readLine_75 rfl rfl (by decide) rfl ?_
          refine tr_goto (tgt := 24) dX8_readLine_78 (by decide) ?_
          exact (fun s y0 y1 y2 g0 g1 => ih s y0 y1 y2 g0 g1) s11 l0 l1 (l2 + 1) h0 h1
set_option maxRecDepth 100000 in
theorem sp_X8_readLine (G : MG) (hG : (g_l G).stackTraces = false) (d : Nat) (hd : 7 ≤ d)   (σ : MsSt) (l0 : Nat) (h0 : ms_kd l0 = 9) : MsSpec G mX8_readLine d 0 0 [.ref l0] σ ms_wv (f_X8_readLine σ l0) := by
  refine ms_start (by decide +kernel) rfl rfl (Nat.le_of_ble_eq_true rfl) ?_
  show TrO G mX8_readLine d 0 0 0 0 ms_wv 0 [(0, .ref l0)] [] σ ((f_X9_advance σ (ms_rf l0 0)).bind fun s1 => (f_X6_lineAt s1 (ms_rf l0 1) (ms_i s1 (ms_rf l0 1) 5)).bind fun v2 => f_X8_readLine_24 ms_fuel s1 l0 v2 0)
  refine tr_aload_n (i := 0) dX8_readLine_0 rfl ?_
  refine tr_getR 8 h0 fl_X8_9 (by decide +kernel) dX8_readLine_1 ?_
  refine tr_c_wv (ms_cV (rest := []) (al := []) 9 (sp_X9_advance G hG (d - 1) (by omega) σ (ms_rf l0 0) (rk_8_0 h0)) (rk_8_0 h0) (by decide +kernel) kl_X8_62 fv_X9_advance dX8_readLine_4 (show _ = some 0 by decide +kernel) (by omega) (Nat.le_of_ble_eq_true rfl) (by decide) (by decide)) (fun s1 => ?_)
  refine tr_aload_n (i := 0) dX8_readLine_7 rfl ?_
  refine tr_getR 8 h0 fl_X8_18 (by decide +kernel) dX8_readLine_8 ?_
  refine tr_aload_n (i := 0) dX8_readLine_11 rfl ?_
  refine tr_getR 8 h0 fl_X8_18 (by decide +kernel) dX8_readLine_12 ?_
  refine tr_getI 6 (rk_8_1 h0) fl_X8_65 (by decide +kernel) dX8_readLine_15 ?_
  refine tr_c_a (ms_cV (rest := []) (al := [.int (ms_i s1 (ms_rf l0 1) 5)]) 6 (sp_X6_lineAt G hG (d - 1) (by omega) s1 (ms_rf l0 1) (ms_i s1 (ms_rf l0 1) 5) (rk_8_1 h0)) (rk_8_1 h0) (by decide +kernel) kl_X8_195 fv_X6_lineAt dX8_readLine_18 (show _ = some 1 by decide +kernel) (by omega) (Nat.le_of_ble_eq_true rfl) (by decide) (by decide)) (fun v2 e_v2 => ?_)
  refine tr_astore_n (lv' := [(0, .ref l0), (1, .ref v2)]) [1, 0] dX8_readLine_21 (by decide) rfl ?_
  refine tr_iconst (v := 0) dX8_readLine_22 (by decide +kernel) ?_
  refine tr_istore_n (lv' := [(0, .ref l0), (1, .ref v2), (2, .int 0)]) [1, 2, 0] dX8_readLine_23 (by decide) rfl ?_
  exact t_X8_readLine_24 G hG d hd ms_fuel s1 l0 v2 0 h0 (ra_X6_lineAt (rk_8_1 h0) e_v2)
theorem dX8_readText_0 : decode cX8_readText 0 = .ok (.aload_n 0, 1) := by decide +kernel
theorem dX8_readText_1 : decode cX8_readText 1 = .ok (.getfield 18, 3) := by decide +kernel
theorem dX8_readText_4 : decode cX8_readText 4 = .ok (.invokevirtual 22, 3) := by decide +kernel
theorem dX8_readText_7 : decode cX8_readText 7 = .ok (.aload_n 0, 1) := by decide +kernel
theorem dX8_readText_8 : decode cX8_readText 8 = .ok (.getfield 9, 3) := by decide +kernel
theorem dX8_readText_11 : decode cX8_readText 11 = .ok (.iload_n 1, 1) := by decide +kernel
theorem dX8_readText_12 : decode cX8_readText 12 = .ok (.invokevirtual 25, 3) := by decide +kernel
theorem dX8_readText_15 : decode cX8_readText 15 = .ok (.iconst 0, 1) := by decide +kernel
theorem dX8_readText_16 : decode cX8_readText 16 = .ok (.istore_n 2, 1) := by decide +kernel
theorem dX8_readText_17 : decode cX8_readText 17 = .ok (.iload_n 2, 1) := by decide +kernel
theorem dX8_readText_18 : decode cX8_readText 18 = .ok (.bipush 40, 2) := by decide +kernel
theorem dX8_readText_20 : decode cX8_readText 20 = .ok (.if_icmp .ge 58, 3) := by decide +kernel
theorem dX8_readText_23 : decode cX8_readText 23 = .ok (.aload_n 0, 1) := by decide +kernel
theorem dX8_readText_24 : decode cX8_readText 24 = .ok (.invokevirtual 31, 3) := by decide +kernel
theorem dX8_readText_27 : decode cX8_readText 27 = .ok (.ifCond .eq 51, 3) := by decide +kernel
theorem dX8_readText_30 : decode cX8_readText 30 = .ok (.aload_n 0, 1) := by decide +kernel
theorem dX8_readText_31 : decode cX8_readText 31 = .ok (.getfield 9, 3) := by decide +kernel
theorem dX8_readText_34 : decode cX8_readText 34 = .ok (.ldc 35, 2) := by decide +kernel
theorem dX8_readText_36 : decode cX8_readText 36 = .ok (.invokevirtual 37, 3) := by decide +kernel
theorem dX8_readText_39 : decode cX8_readText 39 = .ok (.ifCond .eq 10, 3) := by decide +kernel
theorem dX8_readText_42 : decode cX8_readText 42 = .ok (.aload_n 0, 1) := by decide +kernel
theorem dX8_readText_43 : decode cX8_readText 43 = .ok (.invokevirtual 41, 3) := by decide +kernel
theorem dX8_readText_46 : decode cX8_readText 46 = .ok (.goto 26, 3) := by decide +kernel
theorem dX8_readText_49 : decode cX8_readText 49 = .ok (.aload_n 0, 1) := by decide +kernel
theorem dX8_readText_50 : decode cX8_readText 50 = .ok (.getfield 9, 3) := by decide +kernel
theorem dX8_readText_53 : decode cX8_readText 53 = .ok (.ldc 44, 2) := by decide +kernel
theorem dX8_readText_55 : decode cX8_readText 55 = .ok (.invokevirtual 37, 3) := by decide +kernel
theorem dX8_readText_58 : decode cX8_readText 58 = .ok (.ifCond .eq 10, 3) := by decide +kernel
theorem dX8_readText_61 : decode cX8_readText 61 = .ok (.aload_n 0, 1) := by decide +kernel
theorem dX8_readText_62 : decode cX8_readText 62 = .ok (.invokevirtual 46, 3) := by decide +kernel
theorem dX8_readText_65 : decode cX8_readText 65 = .ok (.goto 7, 3) := by decide +kernel
theorem dX8_readText_68 : decode cX8_readText 68 = .ok (.aload_n 0, 1) := by decide +kernel
theorem dX8_readText_69 : decode cX8_readText 69 = .ok (.invokevirtual 49, 3) := by decide +kernel
theorem dX8_readText_72 : decode cX8_readText 72 = .ok (.iinc 2 1, 3) := by decide +kernel
theorem dX8_readText_75 : decode cX8_readText 75 = .ok (.goto (-58), 3) := by decide +kernel
theorem dX8_readText_78 : decode cX8_readText 78 = .ok (.aload_n 0, 1) := by decide +kernel
theorem dX8_readText_79 : decode cX8_readText 79 = .ok (.invokevirtual 31, 3) := by decide +kernel
theorem dX8_readText_82 : decode cX8_readText 82 = .ok (.ifCond .eq 11, 3) := by decide +kernel
theorem dX8_readText_85 : decode cX8_readText 85 = .ok (.aload_n 0, 1) := by decide +kernel
theorem dX8_readText_86 : decode cX8_readText 86 = .ok (.getfield 9, 3) := by decide +kernel
theorem dX8_readText_89 : decode cX8_readText 89 = .ok (.iconst 5, 1) := by decide +kernel
theorem dX8_readText_90 : decode cX8_readText 90 = .ok (.invokevirtual 52, 3) := by decide +kernel
theorem dX8_readText_93 : decode cX8_readText 93 = .ok (.aload_n 0, 1) := by decide +kernel
theorem dX8_readText_94 : decode cX8_readText 94 = .ok (.getfield 9, 3) := by decide +kernel
theorem dX8_readText_97 : decode cX8_readText 97 = .ok (.ldc 55, 2) := by decide +kernel
theorem dX8_readText_99 : decode cX8_readText 99 = .ok (.invokevirtual 37, 3) := by decide +kernel
theorem dX8_readText_102 : decode cX8_readText 102 = .ok (.ifCond .ne 11, 3) := by decide +kernel
theorem dX8_readText_105 : decode cX8_readText 105 = .ok (.aload_n 0, 1) := by decide +kernel
theorem dX8_readText_106 : decode cX8_readText 106 = .ok (.getfield 9, 3) := by decide +kernel
theorem dX8_readText_109 : decode cX8_readText 109 = .ok (.iconst 1, 1) := by decide +kernel
theorem dX8_readText_110 : decode cX8_readText 110 = .ok (.invokevirtual 52, 3) := by decide +kernel
theorem dX8_readText_113 : decode cX8_readText 113 = .ok (.iconst 0, 1) := by decide +kernel
theorem dX8_readText_114 : decode cX8_readText 114 = .ok (.istore_n 2, 1) := by decide +kernel
theorem dX8_readText_115 : decode cX8_readText 115 = .ok (.iload_n 2, 1) := by decide +kernel
theorem dX8_readText_116 : decode cX8_readText 116 = .ok (.iconst 4, 1) := by decide +kernel
theorem dX8_readText_117 : decode cX8_readText 117 = .ok (.if_icmp .ge 25, 3) := by decide +kernel
theorem dX8_readText_120 : decode cX8_readText 120 = .ok (.aload_n 0, 1) := by decide +kernel
theorem dX8_readText_121 : decode cX8_readText 121 = .ok (.getfield 9, 3) := by decide +kernel
theorem dX8_readText_124 : decode cX8_readText 124 = .ok (.ldc 55, 2) := by decide +kernel
theorem dX8_readText_126 : decode cX8_readText 126 = .ok (.invokevirtual 37, 3) := by decide +kernel
theorem dX8_readText_129 : decode cX8_readText 129 = .ok (.ifCond .eq 13, 3) := by decide +kernel
theorem dX8_readText_132 : decode cX8_readText 132 = .ok (.aload_n 0, 1) := by decide +kernel
theorem dX8_readText_133 : decode cX8_readText 133 = .ok (.invokevirtual 57, 3) := by decide +kernel
theorem dX8_readText_136 : decode cX8_readText 136 = .ok (.iinc 2 1, 3) := by decide +kernel
theorem dX8_readText_139 : decode cX8_readText 139 = .ok (.goto (-24), 3) := by decide +kernel
theorem dX8_readText_142 : decode cX8_readText 142 = .ok (.aload_n 0, 1) := by decide +kernel
theorem dX8_readText_143 : decode cX8_readText 143 = .ok (.getfield 9, 3) := by decide +kernel
theorem dX8_readText_146 : decode cX8_readText 146 = .ok (.ldc 55, 2) := by decide +kernel
theorem dX8_readText_148 : decode cX8_readText 148 = .ok (.invokevirtual 37, 3) := by decide +kernel
theorem dX8_readText_151 : decode cX8_readText 151 = .ok (.ifCond .eq 11, 3) := by decide +kernel
theorem dX8_readText_154 : decode cX8_readText 154 = .ok (.aload_n 0, 1) := by decide +kernel
theorem dX8_readText_155 : decode cX8_readText 155 = .ok (.getfield 9, 3) := by decide +kernel
theorem dX8_readText_158 : decode cX8_readText 158 = .ok (.iconst 5, 1) := by decide +kernel
theorem dX8_readText_159 : decode cX8_readText 159 = .ok (.invokevirtual 52, 3) := by decide +kernel
theorem dX8_readText_162 : decode cX8_readText 162 = .ok (.aload_n 0, 1) := by decide +kernel
theorem dX8_readText_163 : decode cX8_readText 163 = .ok (.getfield 9, 3) := by decide +kernel
theorem dX8_readText_166 : decode cX8_readText 166 = .ok (.ldc 60, 2) := by decide +kernel
theorem dX8_readText_168 : decode cX8_readText 168 = .ok (.invokevirtual 37, 3) := by decide +kernel
theorem dX8_readText_171 : decode cX8_readText 171 = .ok (.ifCond .eq 43, 3) := by decide +kernel
theorem dX8_readText_174 : decode cX8_readText 174 = .ok (.aload_n 0, 1) := by decide +kernel
theorem dX8_readText_175 : decode cX8_readText 175 = .ok (.getfield 9, 3) := by decide +kernel
theorem dX8_readText_178 : decode cX8_readText 178 = .ok (.invokevirtual 62, 3) := by decide +kernel
theorem dX8_readText_181 : decode cX8_readText 181 = .ok (.aload_n 0, 1) := by decide +kernel
theorem dX8_readText_182 : decode cX8_readText 182 = .ok (.getfield 18, 3) := by decide +kernel
theorem dX8_readText_185 : decode cX8_readText 185 = .ok (.aload_n 0, 1) := by decide +kernel
theorem dX8_readText_186 : decode cX8_readText 186 = .ok (.getfield 9, 3) := by decide +kernel
theorem dX8_readText_189 : decode cX8_readText 189 = .ok (.iconst 0, 1) := by decide +kernel
theorem dX8_readText_190 : decode cX8_readText 190 = .ok (.aload_n 0, 1) := by decide +kernel
theorem dX8_readText_191 : decode cX8_readText 191 = .ok (.getfield 18, 3) := by decide +kernel
theorem dX8_readText_194 : decode cX8_readText 194 = .ok (.getfield 65, 3) := by decide +kernel
theorem dX8_readText_197 : decode cX8_readText 197 = .ok (.iconst 1, 1) := by decide +kernel
theorem dX8_readText_198 : decode cX8_readText 198 = .ok (.isub, 1) := by decide +kernel
theorem dX8_readText_199 : decode cX8_readText 199 = .ok (.invokevirtual 69, 3) := by decide +kernel
theorem dX8_readText_202 : decode cX8_readText 202 = .ok (.putfield 73, 3) := by decide +kernel
theorem dX8_readText_205 : decode cX8_readText 205 = .ok (.aload_n 0, 1) := by decide +kernel
theorem dX8_readText_206 : decode cX8_readText 206 = .ok (.getfield 9, 3) := by decide +kernel
theorem dX8_readText_209 : decode cX8_readText 209 = .ok (.bipush 59, 2) := by decide +kernel
theorem dX8_readText_211 : decode cX8_readText 211 = .ok (.invokevirtual 76, 3) := by decide +kernel
theorem dX8_readText_214 : decode cX8_readText 214 = .ok (.aload_n 0, 1) := by decide +kernel
theorem dX8_readText_215 : decode cX8_readText 215 = .ok (.getfield 9, 3) := by decide +kernel
theorem dX8_readText_218 : decode cX8_readText 218 = .ok (.invokevirtual 80, 3) := by decide +kernel
theorem dX8_readText_221 : decode cX8_readText 221 = .ok (.aload_n 0, 1) := by decide +kernel
theorem dX8_readText_222 : decode cX8_readText 222 = .ok (.getfield 9, 3) := by decide +kernel
theorem dX8_readText_225 : decode cX8_readText 225 = .ok (.getfield 83, 3) := by decide +kernel
theorem dX8_readText_228 : decode cX8_readText 228 = .ok (.ireturn, 1) := by decide +kernel
set_option maxRecDepth 100000 in
theorem t_X8_readText_162 (G : MG) (hG : (g_l G).stackTraces = false) (d : Nat) (hd : 9 ≤ d)    (σ : MsSt) (l0 : Nat) (h0 : ms_kd l0 = 9) : TrO G mX8_readText d 0 0 0 0 ms_wi 162 [(0, .ref l0)] [] σ (f_X8_readText_162 σ l0) := by
  show TrO G mX8_readText d 0 0 0 0 ms_wi 162 [(0, .ref l0)] [] σ ((f_X9_isWord σ (ms_rf l0 0) 614).bind fun v6 => if v6 = 0 then (f_X9_takeEnd σ (ms_rf l0 0)).bind fun s7 => some ((ms_i s7 (ms_rf l0 0) 7), s7) else (f_X9_advance σ (ms_rf l0 0)).bind fun s8 => ms_b2 (f_X9_takeNumber s8 (ms_rf l0 0) 0 ((ms_i s8 (ms_rf l0 1) 5) - 1)) fun v9 s10 => ms_nm (ms_si s10 (ms_rf l0 1) 6 v9) fun s11 => (f_X9_takeSymbol s11 (ms_rf l0 0) 59).bind fun s12 => (f_X9_takeEnd s12 (ms_rf l0 0)).bind fun s13 => some ((ms_i s13 (ms_rf l0 0) 7), s13))
  refine tr_aload_n (i := 0) dX8_readText_162 rfl ?_
  refine tr_getR 8 h0 fl_X8_9 (by decide +kernel) dX8_readText_163 ?_
  refine tr_ldcs 14 (tx := "hand") (by decide) (by decide +kernel) dX8_readText_166 ?_
  refine tr_c_i (ms_cV (rest := []) (al := [.ref 614]) 9 (sp_X9_isWord G hG (d - 1) (by omega) σ (ms_rf l0 0) 614 (rk_8_0 h0) (⟨by decide, by decide⟩)) (rk_8_0 h0) (by decide +kernel) kl_X8_37 fv_X9_isWord dX8_readText_168 (show _ = some 1 by decide +kernel) (by omega) (Nat.le_of_ble_eq_true rfl) (by decide) (by decide)) (fun v6 => ?_)
  refine tr_ifeq (o := none) (tgt := 214) dX8_readText_171 (by decide) ?_ ?_
  · refine tr_aload_n (i := 0) dX8_readText_214 rfl ?_
    refine tr_getR 8 h0 fl_X8_9 (by decide +kernel) dX8_readText_215 ?_
    refine tr_c_wv (ms_cV (rest := []) (al := []) 9 (sp_X9_takeEnd G hG (d - 1) (by omega) σ (ms_rf l0 0) (rk_8_0 h0)) (rk_8_0 h0) (by decide +kernel) kl_X8_80 fv_X9_takeEnd dX8_readText_218 (show _ = some 0 by decide +kernel) (by omega) (Nat.le_of_ble_eq_true rfl) (by decide) (by decide)) (fun s7 => ?_)
    refine tr_aload_n (i := 0) dX8_readText_221 rfl ?_
    refine tr_getR 8 h0 fl_X8_9 (by decide +kernel) dX8_readText_222 ?_
    refine tr_getI 9 (rk_8_0 h0) fl_X8_83 (by decide +kernel) dX8_readText_225 ?_
    exact tr_iret rfl rfl (by decide) (by decide) dX8_readText_228
  · refine tr_aload_n (i := 0) dX8_readText_174 rfl ?_
    refine tr_getR 8 h0 fl_X8_9 (by decide +kernel) dX8_readText_175 ?_
    refine tr_c_wv (ms_cV (rest := []) (al := []) 9 (sp_X9_advance G hG (d - 1) (by omega) σ (ms_rf l0 0) (rk_8_0 h0)) (rk_8_0 h0) (by decide +kernel) kl_X8_62 fv_X9_advance dX8_readText_178 (show _ = some 0 by decide +kernel) (by omega) (Nat.le_of_ble_eq_true rfl) (by decide) (by decide)) (fun s8 => ?_)
    refine tr_aload_n (i := 0) dX8_readText_181 rfl ?_
    refine tr_getR 8 h0 fl_X8_18 (by decide +kernel) dX8_readText_182 ?_
    refine tr_aload_n (i := 0) dX8_readText_185 rfl ?_
    refine tr_getR 8 h0 fl_X8_9 (by decide +kernel) dX8_readText_186 ?_
    refine tr_iconst (v := 0) dX8_readText_189 (by decide +kernel) ?_
    refine tr_aload_n (i := 0) dX8_readText_190 rfl ?_
    refine tr_getR 8 h0 fl_X8_18 (by decide +kernel) dX8_readText_191 ?_
    refine tr_getI 6 (rk_8_1 h0) fl_X8_65 (by decide +kernel) dX8_readText_194 ?_
    refine tr_iconst (v := 1) dX8_readText_197 (by decide +kernel) ?_
    refine tr_isub dX8_readText_198 ?_
    refine tr_d_wi (ms_cV (rest := [.ref (ms_rf l0 1)]) (al := [.int 0, .int ((ms_i s8 (ms_rf l0 1) 5) - 1)]) 9 (sp_X9_takeNumber G hG (d - 1) (by omega) s8 (ms_rf l0 0) 0 ((ms_i s8 (ms_rf l0 1) 5) - 1) (rk_8_0 h0)) (rk_8_0 h0) (by decide +kernel) kl_X8_69 fv_X9_takeNumber dX8_readText_199 (show _ = some 2 by decide +kernel) (by omega) (Nat.le_of_ble_eq_true rfl) (by decide) (by decide)) (fun v9 s10 => ?_)
    refine tr_putI 6 (rk_8_1 h0) fl_X8_73 (by decide +kernel) dX8_readText_202 ?_
    refine ms_ltS (fun s11 => ?_)
    refine tr_aload_n (i := 0) dX8_readText_205 rfl ?_
    refine tr_getR 8 h0 fl_X8_9 (by decide +kernel) dX8_readText_206 ?_
    refine tr_bipush (v := 59) dX8_readText_209 (by decide +kernel) ?_
    refine tr_c_wv (ms_cV (rest := []) (al := [.int 59]) 9 (sp_X9_takeSymbol G hG (d - 1) (by omega) s11 (ms_rf l0 0) 59 (rk_8_0 h0)) (rk_8_0 h0) (by decide +kernel) kl_X8_76 fv_X9_takeSymbol dX8_readText_211 (show _ = some 1 by decide +kernel) (by omega) (Nat.le_of_ble_eq_true rfl) (by decide) (by decide)) (fun s12 => ?_)
    refine tr_aload_n (i := 0) dX8_readText_214 rfl ?_
    refine tr_getR 8 h0 fl_X8_9 (by decide +kernel) dX8_readText_215 ?_
    refine tr_c_wv (ms_cV (rest := []) (al := []) 9 (sp_X9_takeEnd G hG (d - 1) (by omega) s12 (ms_rf l0 0) (rk_8_0 h0)) (rk_8_0 h0) (by decide +kernel) kl_X8_80 fv_X9_takeEnd dX8_readText_218 (show _ = some 0 by decide +kernel) (by omega) (Nat.le_of_ble_eq_true rfl) (by decide) (by decide)) (fun s13 => ?_)
    refine tr_aload_n (i := 0) dX8_readText_221 rfl ?_
    refine tr_getR 8 h0 fl_X8_9 (by decide +kernel) dX8_readText_222 ?_
    refine tr_getI 9 (rk_8_0 h0) fl_X8_83 (by decide +kernel) dX8_readText_225 ?_
    exact tr_iret rfl rfl (by decide) (by decide) dX8_readText_228
set_option maxRecDepth 100000 in
theorem t_X8_readText_142 (G : MG) (hG : (g_l G).stackTraces = false) (d : Nat) (hd : 9 ≤ d)    (σ : MsSt) (l0 : Nat) (h0 : ms_kd l0 = 9) : TrO G mX8_readText d 0 0 0 0 ms_wi 142 [(0, .ref l0)] [] σ (f_X8_readText_142 σ l0) := by
  show TrO G mX8_readText d 0 0 0 0 ms_wi 142 [(0, .ref l0)] [] σ ((f_X9_isWord σ (ms_rf l0 0) 613).bind fun v5 => if v5 = 0 then f_X8_readText_162 σ l0 else (f_X9_fail σ (ms_rf l0 0) 5).bind fun s14 => f_X8_readText_162 s14 l0)
  refine tr_aload_n (i := 0) dX8_readText_142 rfl ?_
  refine tr_getR 8 h0 fl_X8_9 (by decide +kernel) dX8_readText_143 ?_
  refine tr_ldcs 13 (tx := "line") (by decide) (by decide +kernel) dX8_readText_146 ?_
  refine tr_c_i (ms_cV (rest := []) (al := [.ref 613]) 9 (sp_X9_isWord G hG (d - 1) (by omega) σ (ms_rf l0 0) 613 (rk_8_0 h0) (⟨by decide, by decide⟩)) (rk_8_0 h0) (by decide +kernel) kl_X8_37 fv_X9_isWord dX8_readText_148 (show _ = some 1 by decide +kernel) (by omega) (Nat.le_of_ble_eq_true rfl) (by decide) (by decide)) (fun v5 => ?_)
  refine tr_ifeq (o := none) (tgt := 162) dX8_readText_151 (by decide) ?_ ?_
  · exact t_X8_readText_162 G hG d hd σ l0 h0
  · refine tr_aload_n (i := 0) dX8_readText_154 rfl ?_
    refine tr_getR 8 h0 fl_X8_9 (by decide +kernel) dX8_readText_155 ?_
    refine tr_iconst (v := 5) dX8_readText_158 (by decide +kernel) ?_
    refine tr_c_wv (ms_cV (rest := []) (al := [.int 5]) 9 (sp_X9_fail G hG (d - 1) (by omega) σ (ms_rf l0 0) 5 (rk_8_0 h0)) (rk_8_0 h0) (by decide +kernel) kl_X8_52 fv_X9_fail dX8_readText_159 (show _ = some 1 by decide +kernel) (by omega) (Nat.le_of_ble_eq_true rfl) (by decide) (by decide)) (fun s14 => ?_)
    exact t_X8_readText_162 G hG d hd s14 l0 h0
set_option maxRecDepth 100000 in
theorem t_X8_readText_115 (G : MG) (hG : (g_l G).stackTraces = false) (d : Nat) (hd : 9 ≤ d)    : ∀ (n : Nat) (σ : MsSt) (l0 : Nat) (l2 : Int32) (h0 : ms_kd l0 = 9), TrO G mX8_readText d 0 0 0 0 ms_wi 115 [(0, .ref l0), (2, .int l2)] [] σ (f_X8_readText_115 n σ l0 l2) := by
  intro n
  induction n with
  | zero => exact fun _ _ _ _ => tr_none
  | succ n ih =>
    intro σ l0 l2 h0
    show TrO G mX8_readText d 0 0 0 0 ms_wi 115 [(0, .ref l0), (2, .int l2)] [] σ (if l2 < 4 then (f_X9_isWord σ (ms_rf l0 0) 613).bind fun v15 => if v15 = 0 then f_X8_readText_142 σ l0 else (f_X8_readLine σ l0).bind fun s16 => (f_X8_readText_115 n) s16 l0 (l2 + 1) else f_X8_readText_142 σ l0)
    refine tr_iload_n (i := 1) dX8_readText_115 rfl ?_
    refine tr_iconst (v := 4) dX8_readText_116 (by decide +kernel) ?_
    refine tr_icge (o := none) (tgt := 142) dX8_readText_117 (by decide) ?_ ?_
    · refine tr_weak [0] (lv' := [(0, .ref l0)]) rfl ?_
      exact t_X8_readText_142 G hG d hd σ l0 h0
    · refine tr_aload_n (i := 0) dX8_readText_120 rfl ?_
      refine tr_getR 8 h0 fl_X8_9 (by decide +kernel) dX8_readText_121 ?_
      refine tr_ldcs 13 (tx := "line") (by decide) (by decide +kernel) dX8_readText_124 ?_
      refine tr_c_i (ms_cV (rest := []) (al := [.ref 613]) 9 (sp_X9_isWord G hG (d - 1) (by omega) σ (ms_rf l0 0) 613 (rk_8_0 h0) (⟨by decide, by decide⟩)) (rk_8_0 h0) (by decide +kernel) kl_X8_37 fv_X9_isWord dX8_readText_126 (show _ = some 1 by decide +kernel) (by omega) (Nat.le_of_ble_eq_true rfl) (by decide) (by decide)) (fun v15 => ?_)
      refine tr_ifeq (o := none) (tgt := 142) dX8_readText_129 (by decide) ?_ ?_
      · refine tr_weak [0] (lv' := [(0, .ref l0)]) rfl ?_
        exact t_X8_readText_142 G hG d hd σ l0 h0
      · refine tr_aload_n (i := 0) dX8_readText_132 rfl ?_
        refine tr_c_wv (ms_cV (rest := []) (al := []) 8 (sp_X8_readLine G hG (d - 1) (by omega) σ l0 h0) h0 (by decide +kernel) kl_X8_57 fv_X8_readLine dX8_readText_133 (show _ = some 0 by decide +kernel) (by omega) (Nat.le_of_ble_eq_true rfl) (by decide) (by decide)) (fun s16 => ?_)
        refine tr_iinc (k := 1) (v := (l2 + 1)) (lv' := [(0, .ref l0), (2, .int (l2 + 1))]) [1, 0] dX8_readText_136 rfl rfl (by decide) rfl ?_
        refine tr_goto (tgt := 115) dX8_readText_139 (by decide) ?_
        exact (fun s y0 y1 g0 => ih s y0 y1 g0) s16 l0 (l2 + 1) h0
set_option maxRecDepth 100000 in
theorem t_X8_readText_93 (G : MG) (hG : (g_l G).stackTraces = false) (d : Nat) (hd : 9 ≤ d)    (σ : MsSt) (l0 : Nat) (h0 : ms_kd l0 = 9) : TrO G mX8_readText d 0 0 0 0 ms_wi 93 [(0, .ref l0)] [] σ (f_X8_readText_93 σ l0) := by
  show TrO G mX8_readText d 0 0 0 0 ms_wi 93 [(0, .ref l0)] [] σ ((f_X9_isWord σ (ms_rf l0 0) 613).bind fun v4 => if v4 = 0 then (f_X9_fail σ (ms_rf l0 0) 1).bind fun s17 => f_X8_readText_115 ms_fuel s17 l0 0 else f_X8_readText_115 ms_fuel σ l0 0)
  refine tr_aload_n (i := 0) dX8_readText_93 rfl ?_
  refine tr_getR 8 h0 fl_X8_9 (by decide +kernel) dX8_readText_94 ?_
  refine tr_ldcs 13 (tx := "line") (by decide) (by decide +kernel) dX8_readText_97 ?_
  refine tr_c_i (ms_cV (rest := []) (al := [.ref 613]) 9 (sp_X9_isWord G hG (d - 1) (by omega) σ (ms_rf l0 0) 613 (rk_8_0 h0) (⟨by decide, by decide⟩)) (rk_8_0 h0) (by decide +kernel) kl_X8_37 fv_X9_isWord dX8_readText_99 (show _ = some 1 by decide +kernel) (by omega) (Nat.le_of_ble_eq_true rfl) (by decide) (by decide)) (fun v4 => ?_)
  refine tr_ifne (o := none) (tgt := 113) dX8_readText_102 (by decide) ?_ ?_
  · refine tr_iconst (v := 0) dX8_readText_113 (by decide +kernel) ?_
    refine tr_istore_n (lv' := [(0, .ref l0), (2, .int 0)]) [1, 0] dX8_readText_114 (by decide) rfl ?_
    exact t_X8_readText_115 G hG d hd ms_fuel σ l0 0 h0
  · refine tr_aload_n (i := 0) dX8_readText_105 rfl ?_
    refine tr_getR 8 h0 fl_X8_9 (by decide +kernel) dX8_readText_106 ?_
    refine tr_iconst (v := 1) dX8_readText_109 (by decide +kernel) ?_
    refine tr_c_wv (ms_cV (rest := []) (al := [.int 1]) 9 (sp_X9_fail G hG (d - 1) (by omega) σ (ms_rf l0 0) 1 (rk_8_0 h0)) (rk_8_0 h0) (by decide +kernel) kl_X8_52 fv_X9_fail dX8_readText_110 (show _ = some 1 by decide +kernel) (by omega) (Nat.le_of_ble_eq_true rfl) (by decide) (by decide)) (fun s17 => ?_)
    refine tr_iconst (v := 0) dX8_readText_113 (by decide +kernel) ?_
    refine tr_istore_n (lv' := [(0, .ref l0), (2, .int 0)]) [1, 0] dX8_readText_114 (by decide) rfl ?_
    exact t_X8_readText_115 G hG d hd ms_fuel s17 l0 0 h0
set_option maxRecDepth 100000 in
theorem t_X8_readText_78 (G : MG) (hG : (g_l G).stackTraces = false) (d : Nat) (hd : 9 ≤ d)    (σ : MsSt) (l0 : Nat) (h0 : ms_kd l0 = 9) : TrO G mX8_readText d 0 0 0 0 ms_wi 78 [(0, .ref l0)] [] σ (f_X8_readText_78 σ l0) := by
  show TrO G mX8_readText d 0 0 0 0 ms_wi 78 [(0, .ref l0)] [] σ ((f_X8_isSignAhead σ l0).bind fun v3 => if v3 = 0 then f_X8_readText_93 σ l0 else (f_X9_fail σ (ms_rf l0 0) 5).bind fun s18 => f_X8_readText_93 s18 l0)
  refine tr_aload_n (i := 0) dX8_readText_78 rfl ?_
  refine tr_c_i (ms_cV (rest := []) (al := []) 8 (sp_X8_isSignAhead G hG (d - 1) (by omega) σ l0 h0) h0 (by decide +kernel) kl_X8_31 fv_X8_isSignAhead dX8_readText_79 (show _ = some 0 by decide +kernel) (by omega) (Nat.le_of_ble_eq_true rfl) (by decide) (by decide)) (fun v3 => ?_)
  refine tr_ifeq (o := none) (tgt := 93) dX8_readText_82 (by decide) ?_ ?_
  · exact t_X8_readText_93 G hG d hd σ l0 h0
  · refine tr_aload_n (i := 0) dX8_readText_85 rfl ?_
    refine tr_getR 8 h0 fl_X8_9 (by decide +kernel) dX8_readText_86 ?_
    refine tr_iconst (v := 5) dX8_readText_89 (by decide +kernel) ?_
    refine tr_c_wv (ms_cV (rest := []) (al := [.int 5]) 9 (sp_X9_fail G hG (d - 1) (by omega) σ (ms_rf l0 0) 5 (rk_8_0 h0)) (rk_8_0 h0) (by decide +kernel) kl_X8_52 fv_X9_fail dX8_readText_90 (show _ = some 1 by decide +kernel) (by omega) (Nat.le_of_ble_eq_true rfl) (by decide) (by decide)) (fun s18 => ?_)
    exact t_X8_readText_93 G hG d hd s18 l0 h0
set_option maxRecDepth 100000 in
theorem t_X8_readText_17 (G : MG) (hG : (g_l G).stackTraces = false) (d : Nat) (hd : 9 ≤ d)    : ∀ (n : Nat) (σ : MsSt) (l0 : Nat) (l2 : Int32) (h0 : ms_kd l0 = 9), TrO G mX8_readText d 0 0 0 0 ms_wi 17 [(0, .ref l0), (2, .int l2)] [] σ (f_X8_readText_17 n σ l0 l2) := by
  intro n
  induction n with
  | zero => exact fun _ _ _ _ => tr_none
  | succ n ih =>
    intro σ l0 l2 h0
    show TrO G mX8_readText d 0 0 0 0 ms_wi 17 [(0, .ref l0), (2, .int l2)] [] σ (if l2 < 40 then (f_X8_isSignAhead σ l0).bind fun v19 => if v19 = 0 then f_X8_readText_78 σ l0 else (f_X9_isWord σ (ms_rf l0 0) 601).bind fun v20 => if v20 = 0 then (f_X9_isWord σ (ms_rf l0 0) 602).bind fun v21 => if v21 = 0 then (f_X8_readPair σ l0).bind fun s22 => (f_X8_readText_17 n) s22 l0 (l2 + 1) else (f_X8_readMark σ l0).bind fun s23 => (f_X8_readText_17 n) s23 l0 (l2 + 1) else (f_X8_readBase σ l0).bind fun s24 => (f_X8_readText_17 n) s24 l0 (l2 + 1) else f_X8_readText_78 σ l0)
    refine tr_iload_n (i := 1) dX8_readText_17 rfl ?_
    refine tr_bipush (v := 40) dX8_readText_18 (by decide +kernel) ?_
    refine tr_icge (o := none) (tgt := 78) dX8_readText_20 (by decide) ?_ ?_
    · refine tr_weak [0] (lv' := [(0, .ref l0)]) rfl ?_
      exact t_X8_readText_78 G hG d hd σ l0 h0
    · refine tr_aload_n (i := 0) dX8_readText_23 rfl ?_
      refine tr_c_i (ms_cV (rest := []) (al := []) 8 (sp_X8_isSignAhead G hG (d - 1) (by omega) σ l0 h0) h0 (by decide +kernel) kl_X8_31 fv_X8_isSignAhead dX8_readText_24 (show _ = some 0 by decide +kernel) (by omega) (Nat.le_of_ble_eq_true rfl) (by decide) (by decide)) (fun v19 => ?_)
      refine tr_ifeq (o := none) (tgt := 78) dX8_readText_27 (by decide) ?_ ?_
      · refine tr_weak [0] (lv' := [(0, .ref l0)]) rfl ?_
        exact t_X8_readText_78 G hG d hd σ l0 h0
      · refine tr_aload_n (i := 0) dX8_readText_30 rfl ?_
        refine tr_getR 8 h0 fl_X8_9 (by decide +kernel) dX8_readText_31 ?_
        refine tr_ldcs 1 (tx := "base") (by decide) (by decide +kernel) dX8_readText_34 ?_
        refine tr_c_i (ms_cV (rest := []) (al := [.ref 601]) 9 (sp_X9_isWord G hG (d - 1) (by omega) σ (ms_rf l0 0) 601 (rk_8_0 h0) (⟨by decide, by decide⟩)) (rk_8_0 h0) (by decide +kernel) kl_X8_37 fv_X9_isWord dX8_readText_36 (show _ = some 1 by decide +kernel) (by omega) (Nat.le_of_ble_eq_true rfl) (by decide) (by decide)) (fun v20 => ?_)
        refine tr_ifeq (o := none) (tgt := 49) dX8_readText_39 (by decide) ?_ ?_
        · refine tr_aload_n (i := 0) dX8_readText_49 rfl ?_
          refine tr_getR 8 h0 fl_X8_9 (by decide +kernel) dX8_readText_50 ?_
          refine tr_ldcs 2 (tx := "mark") (by decide) (by decide +kernel) dX8_readText_53 ?_
          refine tr_c_i (ms_cV (rest := []) (al := [.ref 602]) 9 (sp_X9_isWord G hG (d - 1) (by omega) σ (ms_rf l0 0) 602 (rk_8_0 h0) (⟨by decide, by decide⟩)) (rk_8_0 h0) (by decide +kernel) kl_X8_37 fv_X9_isWord dX8_readText_55 (show _ = some 1 by decide +kernel) (by omega) (Nat.le_of_ble_eq_true rfl) (by decide) (by decide)) (fun v21 => ?_)
          refine tr_ifeq (o := none) (tgt := 68) dX8_readText_58 (by decide) ?_ ?_
          · refine tr_aload_n (i := 0) dX8_readText_68 rfl ?_
            refine tr_c_wv (ms_cV (rest := []) (al := []) 8 (sp_X8_readPair G hG (d - 1) (by omega) σ l0 h0) h0 (by decide +kernel) kl_X8_49 fv_X8_readPair dX8_readText_69 (show _ = some 0 by decide +kernel) (by omega) (Nat.le_of_ble_eq_true rfl) (by decide) (by decide)) (fun s22 => ?_)
            refine tr_iinc (k := 1) (v := (l2 + 1)) (lv' := [(0, .ref l0), (2, .int (l2 + 1))]) [1, 0] dX8_readText_72 rfl rfl (by decide) rfl ?_
            refine tr_goto (tgt := 17) dX8_readText_75 (by decide) ?_
            exact (fun s y0 y1 g0 => ih s y0 y1 g0) s22 l0 (l2 + 1) h0
          · refine tr_aload_n (i := 0) dX8_readText_61 rfl ?_
            refine tr_c_wv (ms_cV (rest := []) (al := []) 8 (sp_X8_readMark G hG (d - 1) (by omega) σ l0 h0) h0 (by decide +kernel) kl_X8_46 fv_X8_readMark dX8_readText_62 (show _ = some 0 by decide +kernel) (by omega) (Nat.le_of_ble_eq_true rfl) (by decide) (by decide)) (fun s23 => ?_)
            refine tr_goto (tgt := 72) dX8_readText_65 (by decide) ?_
            refine tr_iinc (k := 1) (v := (l2 + 1)) (lv' := [(0, .ref l0), (2, .int (l2 + 1))]) [1, 0] dX8_readText_72 rfl rfl (by decide) rfl ?_
            refine tr_goto (tgt := 17) dX8_readText_75 (by decide) ?_
            exact (fun s y0 y1 g0 => ih s y0 y1 g0) s23 l0 (l2 + 1) h0
        · refine tr_aload_n (i := 0) dX8_readText_42 rfl ?_
          refine tr_c_wv (ms_cV (rest := []) (al := []) 8 (sp_X8_readBase G hG (d - 1) (by omega) σ l0 h0) h0 (by decide +kernel) kl_X8_41 fv_X8_readBase dX8_readText_43 (show _ = some 0 by decide +kernel) (by omega) (Nat.le_of_ble_eq_true rfl) (by decide) (by decide)) (fun s24 => ?_)
          refine tr_goto (tgt := 72) dX8_readText_46 (by decide) ?_
          refine tr_iinc (k := 1) (v := (l2 + 1)) (lv' := [(0, .ref l0), (2, .int (l2 + 1))]) [1, 0] dX8_readText_72 rfl rfl (by decide) rfl ?_
          refine tr_goto (tgt := 17) dX8_readText_75 (by decide) ?_
          exact (fun s y0 y1 g0 => ih s y0 y1 g0) s24 l0 (l2 + 1) h0
set_option maxRecDepth 100000 in
theorem sp_X8_readText (G : MG) (hG : (g_l G).stackTraces = false) (d : Nat) (hd : 9 ≤ d)   (σ : MsSt) (l0 : Nat) (l1 : Int32) (h0 : ms_kd l0 = 9) : MsSpec G mX8_readText d 0 0 [.ref l0, .int l1] σ ms_wi (f_X8_readText σ l0 l1) := by
  refine ms_start (by decide +kernel) rfl rfl (Nat.le_of_ble_eq_true rfl) ?_
  show TrO G mX8_readText d 0 0 0 0 ms_wi 0 [(0, .ref l0), (1, .int l1)] [] σ ((f_X6_empty σ (ms_rf l0 1)).bind fun s1 => (f_X9_begin s1 (ms_rf l0 0) l1).bind fun s2 => f_X8_readText_17 ms_fuel s2 l0 0)
  refine tr_aload_n (i := 0) dX8_readText_0 rfl ?_
  refine tr_getR 8 h0 fl_X8_18 (by decide +kernel) dX8_readText_1 ?_
  refine tr_c_wv (ms_cV (rest := []) (al := []) 6 (sp_X6_empty G hG (d - 1) (by omega) σ (ms_rf l0 1) (rk_8_1 h0)) (rk_8_1 h0) (by decide +kernel) kl_X8_22 fv_X6_empty dX8_readText_4 (show _ = some 0 by decide +kernel) (by omega) (Nat.le_of_ble_eq_true rfl) (by decide) (by decide)) (fun s1 => ?_)
  refine tr_aload_n (i := 0) dX8_readText_7 rfl ?_
  refine tr_getR 8 h0 fl_X8_9 (by decide +kernel) dX8_readText_8 ?_
  refine tr_iload_n (i := 1) dX8_readText_11 rfl ?_
  refine tr_c_wv (ms_cV (rest := []) (al := [.int l1]) 9 (sp_X9_begin G hG (d - 1) (by omega) s1 (ms_rf l0 0) l1 (rk_8_0 h0)) (rk_8_0 h0) (by decide +kernel) kl_X8_25 fv_X9_begin dX8_readText_12 (show _ = some 1 by decide +kernel) (by omega) (Nat.le_of_ble_eq_true rfl) (by decide) (by decide)) (fun s2 => ?_)
  refine tr_iconst (v := 0) dX8_readText_15 (by decide +kernel) ?_
  refine tr_istore_n (lv' := [(0, .ref l0), (2, .int 0)]) [1, 0] dX8_readText_16 (by decide) rfl ?_
  exact t_X8_readText_17 G hG d hd ms_fuel s2 l0 0 h0
