/-! X0: the bytecode does what the functions say (by program: wip/whole/gen) -/
theorem dX0_heightOf_0 : decode cX0_heightOf 0 = .ok (.iload_n 1, 1) := by decide +kernel
theorem dX0_heightOf_1 : decode cX0_heightOf 1 = .ok (.iconst (-1), 1) := by decide +kernel
theorem dX0_heightOf_2 : decode cX0_heightOf 2 = .ok (.if_icmp .ne 7, 3) := by decide +kernel
theorem dX0_heightOf_5 : decode cX0_heightOf 5 = .ok (.iconst 0, 1) := by decide +kernel
theorem dX0_heightOf_6 : decode cX0_heightOf 6 = .ok (.goto 14, 3) := by decide +kernel
theorem dX0_heightOf_9 : decode cX0_heightOf 9 = .ok (.aload_n 0, 1) := by decide +kernel
theorem dX0_heightOf_10 : decode cX0_heightOf 10 = .ok (.getfield 9, 3) := by decide +kernel
theorem dX0_heightOf_13 : decode cX0_heightOf 13 = .ok (.iload_n 1, 1) := by decide +kernel
theorem dX0_heightOf_14 : decode cX0_heightOf 14 = .ok (.invokevirtual 100, 3) := by decide +kernel
theorem dX0_heightOf_17 : decode cX0_heightOf 17 = .ok (.getfield 104, 3) := by decide +kernel
theorem dX0_heightOf_20 : decode cX0_heightOf 20 = .ok (.ireturn, 1) := by decide +kernel
set_option maxRecDepth 100000 in
theorem sp_X0_heightOf (G : MG) (hG : (g_l G).stackTraces = false) (d : Nat) (hd : 1 ≤ d)   (σ : MsSt) (l0 : Nat) (l1 : Int32) (h0 : ms_kd l0 = 1) : MsSpec G mX0_heightOf d 0 0 [.ref l0, .int l1] σ (ms_ki σ) (f_X0_heightOf σ l0 l1) := by
  refine ms_start (by decide +kernel) rfl rfl (Nat.le_of_ble_eq_true rfl) ?_
  show TrO G mX0_heightOf d 0 0 0 0 (ms_ki σ) 0 [(0, .ref l0), (1, .int l1)] [] σ (if l1 = (-1) then some 0 else (f_X6_told σ (ms_rf l0 0) l1).bind fun v1 => some (ms_i σ v1 7))
  refine tr_iload_n (i := 1) dX0_heightOf_0 rfl ?_
  refine tr_iconst (v := (-1)) dX0_heightOf_1 (by decide +kernel) ?_
  refine tr_icne (o := none) (tgt := 9) dX0_heightOf_2 (by decide) ?_ ?_
  · refine tr_aload_n (i := 0) dX0_heightOf_9 rfl ?_
    refine tr_getR 0 h0 fl_X0_9 (by decide +kernel) dX0_heightOf_10 ?_
    refine tr_iload_n (i := 1) dX0_heightOf_13 rfl ?_
    refine tr_c_a (ms_cV (rest := []) (al := [.int l1]) 6 (sp_X6_told G hG (d - 1) (by omega) σ (ms_rf l0 0) l1 (rk_0_0 h0)) (rk_0_0 h0) (by decide +kernel) kl_X0_100 fv_X6_told dX0_heightOf_14 (show _ = some 1 by decide +kernel) (by omega) (Nat.le_of_ble_eq_true rfl) (by decide) (by decide)) (fun v1 e_v1 => ?_)
    refine tr_getI 7 (ra_X6_told (rk_0_0 h0) e_v1) fl_X0_104 (by decide +kernel) dX0_heightOf_17 ?_
    exact tr_iret rfl rfl (by decide) (by decide) dX0_heightOf_20
  · refine tr_iconst (v := 0) dX0_heightOf_5 (by decide +kernel) ?_
    refine tr_goto (tgt := 20) dX0_heightOf_6 (by decide) ?_
    exact tr_iret rfl rfl (by decide) (by decide) dX0_heightOf_20
theorem dX0_begin_0 : decode cX0_begin 0 = .ok (.aload_n 0, 1) := by decide +kernel
theorem dX0_begin_1 : decode cX0_begin 1 = .ok (.getfield 20, 3) := by decide +kernel
theorem dX0_begin_4 : decode cX0_begin 4 = .ok (.invokevirtual 91, 3) := by decide +kernel
theorem dX0_begin_7 : decode cX0_begin 7 = .ok (.aload_n 0, 1) := by decide +kernel
theorem dX0_begin_8 : decode cX0_begin 8 = .ok (.getfield 24, 3) := by decide +kernel
theorem dX0_begin_11 : decode cX0_begin 11 = .ok (.invokevirtual 91, 3) := by decide +kernel
theorem dX0_begin_14 : decode cX0_begin 14 = .ok (.aload_n 0, 1) := by decide +kernel
theorem dX0_begin_15 : decode cX0_begin 15 = .ok (.getfield 27, 3) := by decide +kernel
theorem dX0_begin_18 : decode cX0_begin 18 = .ok (.invokevirtual 91, 3) := by decide +kernel
theorem dX0_begin_21 : decode cX0_begin 21 = .ok (.aload_n 0, 1) := by decide +kernel
theorem dX0_begin_22 : decode cX0_begin 22 = .ok (.getfield 30, 3) := by decide +kernel
theorem dX0_begin_25 : decode cX0_begin 25 = .ok (.invokevirtual 91, 3) := by decide +kernel
theorem dX0_begin_28 : decode cX0_begin 28 = .ok (.aload_n 0, 1) := by decide +kernel
theorem dX0_begin_29 : decode cX0_begin 29 = .ok (.getfield 33, 3) := by decide +kernel
theorem dX0_begin_32 : decode cX0_begin 32 = .ok (.invokevirtual 91, 3) := by decide +kernel
theorem dX0_begin_35 : decode cX0_begin 35 = .ok (.aload_n 0, 1) := by decide +kernel
theorem dX0_begin_36 : decode cX0_begin 36 = .ok (.iload_n 2, 1) := by decide +kernel
theorem dX0_begin_37 : decode cX0_begin 37 = .ok (.putfield 73, 3) := by decide +kernel
theorem dX0_begin_40 : decode cX0_begin 40 = .ok (.aload_n 0, 1) := by decide +kernel
theorem dX0_begin_41 : decode cX0_begin 41 = .ok (.iconst 0, 1) := by decide +kernel
theorem dX0_begin_42 : decode cX0_begin 42 = .ok (.putfield 85, 3) := by decide +kernel
theorem dX0_begin_45 : decode cX0_begin 45 = .ok (.aload_n 0, 1) := by decide +kernel
theorem dX0_begin_46 : decode cX0_begin 46 = .ok (.iconst 0, 1) := by decide +kernel
theorem dX0_begin_47 : decode cX0_begin 47 = .ok (.putfield 94, 3) := by decide +kernel
theorem dX0_begin_50 : decode cX0_begin 50 = .ok (.aload_n 0, 1) := by decide +kernel
theorem dX0_begin_51 : decode cX0_begin 51 = .ok (.iload_n 1, 1) := by decide +kernel
theorem dX0_begin_52 : decode cX0_begin 52 = .ok (.putfield 97, 3) := by decide +kernel
theorem dX0_begin_55 : decode cX0_begin 55 = .ok (.aload_n 0, 1) := by decide +kernel
theorem dX0_begin_56 : decode cX0_begin 56 = .ok (.iload_n 2, 1) := by decide +kernel
theorem dX0_begin_57 : decode cX0_begin 57 = .ok (.putfield 69, 3) := by decide +kernel
theorem dX0_begin_60 : decode cX0_begin 60 = .ok (.aload_n 0, 1) := by decide +kernel
theorem dX0_begin_61 : decode cX0_begin 61 = .ok (.iconst 0, 1) := by decide +kernel
theorem dX0_begin_62 : decode cX0_begin 62 = .ok (.putfield 82, 3) := by decide +kernel
theorem dX0_begin_65 : decode cX0_begin 65 = .ok (.return_, 1) := by decide +kernel
set_option maxRecDepth 100000 in
theorem sp_X0_begin (G : MG) (hG : (g_l G).stackTraces = false) (d : Nat) (hd : 1 ≤ d)   (σ : MsSt) (l0 : Nat) (l1 : Int32) (l2 : Int32) (h0 : ms_kd l0 = 1) : MsSpec G mX0_begin d 0 0 [.ref l0, .int l1, .int l2] σ ms_wv (f_X0_begin σ l0 l1 l2) := by
  refine ms_start (by decide +kernel) rfl rfl (Nat.le_of_ble_eq_true rfl) ?_
  show TrO G mX0_begin d 0 0 0 0 ms_wv 0 [(0, .ref l0), (1, .int l1), (2, .int l2)] [] σ ((f_X5_clear σ (ms_rf l0 1)).bind fun s1 => (f_X5_clear s1 (ms_rf l0 2)).bind fun s2 => (f_X5_clear s2 (ms_rf l0 3)).bind fun s3 => (f_X5_clear s3 (ms_rf l0 4)).bind fun s4 => (f_X5_clear s4 (ms_rf l0 5)).bind fun s5 => ms_nm (ms_si s5 l0 6 l2) fun s6 => ms_nm (ms_si s6 l0 7 0) fun s7 => ms_nm (ms_si s7 l0 8 0) fun s8 => ms_nm (ms_si s8 l0 9 l1) fun s9 => ms_nm (ms_si s9 l0 10 l2) fun s10 => ms_nm (ms_si s10 l0 11 0) fun s11 => some s11)
  refine tr_aload_n (i := 0) dX0_begin_0 rfl ?_
  refine tr_getR 0 h0 fl_X0_20 (by decide +kernel) dX0_begin_1 ?_
  refine tr_c_wv (ms_cV (rest := []) (al := []) 5 (sp_X5_clear G hG (d - 1) (by omega) σ (ms_rf l0 1) (rk_0_1 h0)) (rk_0_1 h0) (by decide +kernel) kl_X0_91 fv_X5_clear dX0_begin_4 (show _ = some 0 by decide +kernel) (by omega) (Nat.le_of_ble_eq_true rfl) (by decide) (by decide)) (fun s1 => ?_)
  refine tr_aload_n (i := 0) dX0_begin_7 rfl ?_
  refine tr_getR 0 h0 fl_X0_24 (by decide +kernel) dX0_begin_8 ?_
  refine tr_c_wv (ms_cV (rest := []) (al := []) 5 (sp_X5_clear G hG (d - 1) (by omega) s1 (ms_rf l0 2) (rk_0_2 h0)) (rk_0_2 h0) (by decide +kernel) kl_X0_91 fv_X5_clear dX0_begin_11 (show _ = some 0 by decide +kernel) (by omega) (Nat.le_of_ble_eq_true rfl) (by decide) (by decide)) (fun s2 => ?_)
  refine tr_aload_n (i := 0) dX0_begin_14 rfl ?_
  refine tr_getR 0 h0 fl_X0_27 (by decide +kernel) dX0_begin_15 ?_
  refine tr_c_wv (ms_cV (rest := []) (al := []) 5 (sp_X5_clear G hG (d - 1) (by omega) s2 (ms_rf l0 3) (rk_0_3 h0)) (rk_0_3 h0) (by decide +kernel) kl_X0_91 fv_X5_clear dX0_begin_18 (show _ = some 0 by decide +kernel) (by omega) (Nat.le_of_ble_eq_true rfl) (by decide) (by decide)) (fun s3 => ?_)
  refine tr_aload_n (i := 0) dX0_begin_21 rfl ?_
  refine tr_getR 0 h0 fl_X0_30 (by decide +kernel) dX0_begin_22 ?_
  refine tr_c_wv (ms_cV (rest := []) (al := []) 5 (sp_X5_clear G hG (d - 1) (by omega) s3 (ms_rf l0 4) (rk_0_4 h0)) (rk_0_4 h0) (by decide +kernel) kl_X0_91 fv_X5_clear dX0_begin_25 (show _ = some 0 by decide +kernel) (by omega) (Nat.le_of_ble_eq_true rfl) (by decide) (by decide)) (fun s4 => ?_)
  refine tr_aload_n (i := 0) dX0_begin_28 rfl ?_
  refine tr_getR 0 h0 fl_X0_33 (by decide +kernel) dX0_begin_29 ?_
  refine tr_c_wv (ms_cV (rest := []) (al := []) 5 (sp_X5_clear G hG (d - 1) (by omega) s4 (ms_rf l0 5) (rk_0_5 h0)) (rk_0_5 h0) (by decide +kernel) kl_X0_91 fv_X5_clear dX0_begin_32 (show _ = some 0 by decide +kernel) (by omega) (Nat.le_of_ble_eq_true rfl) (by decide) (by decide)) (fun s5 => ?_)
  refine tr_aload_n (i := 0) dX0_begin_35 rfl ?_
  refine tr_iload_n (i := 2) dX0_begin_36 rfl ?_
  refine tr_putI 0 h0 fl_X0_73 (by decide +kernel) dX0_begin_37 ?_
  refine ms_ltS (fun s6 => ?_)
  refine tr_aload_n (i := 0) dX0_begin_40 rfl ?_
  refine tr_iconst (v := 0) dX0_begin_41 (by decide +kernel) ?_
  refine tr_putI 0 h0 fl_X0_85 (by decide +kernel) dX0_begin_42 ?_
  refine ms_ltS (fun s7 => ?_)
  refine tr_aload_n (i := 0) dX0_begin_45 rfl ?_
  refine tr_iconst (v := 0) dX0_begin_46 (by decide +kernel) ?_
  refine tr_putI 0 h0 fl_X0_94 (by decide +kernel) dX0_begin_47 ?_
  refine ms_ltS (fun s8 => ?_)
  refine tr_aload_n (i := 0) dX0_begin_50 rfl ?_
  refine tr_iload_n (i := 1) dX0_begin_51 rfl ?_
  refine tr_putI 0 h0 fl_X0_97 (by decide +kernel) dX0_begin_52 ?_
  refine ms_ltS (fun s9 => ?_)
  refine tr_aload_n (i := 0) dX0_begin_55 rfl ?_
  refine tr_iload_n (i := 2) dX0_begin_56 rfl ?_
  refine tr_putI 0 h0 fl_X0_69 (by decide +kernel) dX0_begin_57 ?_
  refine ms_ltS (fun s10 => ?_)
  refine tr_aload_n (i := 0) dX0_begin_60 rfl ?_
  refine tr_iconst (v := 0) dX0_begin_61 (by decide +kernel) ?_
  refine tr_putI 0 h0 fl_X0_82 (by decide +kernel) dX0_begin_62 ?_
  refine ms_ltS (fun s11 => ?_)
  exact tr_vret rfl rfl (by decide) (by decide) dX0_begin_65
theorem dX0_anchorFor_0 : decode cX0_anchorFor 0 = .ok (.iload_n 2, 1) := by decide +kernel
theorem dX0_anchorFor_1 : decode cX0_anchorFor 1 = .ok (.iconst (-1), 1) := by decide +kernel
theorem dX0_anchorFor_2 : decode cX0_anchorFor 2 = .ok (.if_icmp .ne 5, 3) := by decide +kernel
theorem dX0_anchorFor_5 : decode cX0_anchorFor 5 = .ok (.iconst 0, 1) := by decide +kernel
theorem dX0_anchorFor_6 : decode cX0_anchorFor 6 = .ok (.ireturn, 1) := by decide +kernel
theorem dX0_anchorFor_7 : decode cX0_anchorFor 7 = .ok (.aload_n 0, 1) := by decide +kernel
theorem dX0_anchorFor_8 : decode cX0_anchorFor 8 = .ok (.getfield 9, 3) := by decide +kernel
theorem dX0_anchorFor_11 : decode cX0_anchorFor 11 = .ok (.iload_n 2, 1) := by decide +kernel
theorem dX0_anchorFor_12 : decode cX0_anchorFor 12 = .ok (.invokevirtual 100, 3) := by decide +kernel
theorem dX0_anchorFor_15 : decode cX0_anchorFor 15 = .ok (.astore_n 3, 1) := by decide +kernel
theorem dX0_anchorFor_16 : decode cX0_anchorFor 16 = .ok (.iload_n 1, 1) := by decide +kernel
theorem dX0_anchorFor_17 : decode cX0_anchorFor 17 = .ok (.iconst 2, 1) := by decide +kernel
theorem dX0_anchorFor_18 : decode cX0_anchorFor 18 = .ok (.if_icmp .ne 10, 3) := by decide +kernel
theorem dX0_anchorFor_21 : decode cX0_anchorFor 21 = .ok (.aload_n 3, 1) := by decide +kernel
theorem dX0_anchorFor_22 : decode cX0_anchorFor 22 = .ok (.getfield 118, 3) := by decide +kernel
theorem dX0_anchorFor_25 : decode cX0_anchorFor 25 = .ok (.iconst 2, 1) := by decide +kernel
theorem dX0_anchorFor_26 : decode cX0_anchorFor 26 = .ok (.idiv, 1) := by decide +kernel
theorem dX0_anchorFor_27 : decode cX0_anchorFor 27 = .ok (.ireturn, 1) := by decide +kernel
theorem dX0_anchorFor_28 : decode cX0_anchorFor 28 = .ok (.iload_n 1, 1) := by decide +kernel
theorem dX0_anchorFor_29 : decode cX0_anchorFor 29 = .ok (.ifCond .ne 10, 3) := by decide +kernel
theorem dX0_anchorFor_32 : decode cX0_anchorFor 32 = .ok (.aload_n 3, 1) := by decide +kernel
theorem dX0_anchorFor_33 : decode cX0_anchorFor 33 = .ok (.getfield 125, 3) := by decide +kernel
theorem dX0_anchorFor_36 : decode cX0_anchorFor 36 = .ok (.goto 7, 3) := by decide +kernel
theorem dX0_anchorFor_39 : decode cX0_anchorFor 39 = .ok (.aload_n 3, 1) := by decide +kernel
theorem dX0_anchorFor_40 : decode cX0_anchorFor 40 = .ok (.getfield 128, 3) := by decide +kernel
theorem dX0_anchorFor_43 : decode cX0_anchorFor 43 = .ok (.ireturn, 1) := by decide +kernel
set_option maxRecDepth 100000 in
theorem sp_X0_anchorFor (G : MG) (hG : (g_l G).stackTraces = false) (d : Nat) (hd : 1 ≤ d)   (σ : MsSt) (l0 : Nat) (l1 : Int32) (l2 : Int32) (h0 : ms_kd l0 = 1) : MsSpec G mX0_anchorFor d 0 0 [.ref l0, .int l1, .int l2] σ (ms_ki σ) (f_X0_anchorFor σ l0 l1 l2) := by
  refine ms_start (by decide +kernel) rfl rfl (Nat.le_of_ble_eq_true rfl) ?_
  show TrO G mX0_anchorFor d 0 0 0 0 (ms_ki σ) 0 [(0, .ref l0), (1, .int l1), (2, .int l2)] [] σ (if l2 = (-1) then some 0 else (f_X6_told σ (ms_rf l0 0) l2).bind fun v1 => if l1 = 2 then (ms_idiv (ms_i σ v1 6) 2).bind fun v2 => some v2 else if l1 = 0 then some (ms_i σ v1 8) else some (ms_i σ v1 9))
  refine tr_iload_n (i := 2) dX0_anchorFor_0 rfl ?_
  refine tr_iconst (v := (-1)) dX0_anchorFor_1 (by decide +kernel) ?_
  refine tr_icne (o := none) (tgt := 7) dX0_anchorFor_2 (by decide) ?_ ?_
  · refine tr_aload_n (i := 0) dX0_anchorFor_7 rfl ?_
    refine tr_getR 0 h0 fl_X0_9 (by decide +kernel) dX0_anchorFor_8 ?_
    refine tr_iload_n (i := 2) dX0_anchorFor_11 rfl ?_
    refine tr_c_a (ms_cV (rest := []) (al := [.int l2]) 6 (sp_X6_told G hG (d - 1) (by omega) σ (ms_rf l0 0) l2 (rk_0_0 h0)) (rk_0_0 h0) (by decide +kernel) kl_X0_100 fv_X6_told dX0_anchorFor_12 (show _ = some 1 by decide +kernel) (by omega) (Nat.le_of_ble_eq_true rfl) (by decide) (by decide)) (fun v1 e_v1 => ?_)
    refine tr_astore_n (lv' := [(1, .int l1), (3, .ref v1)]) [2, 0] dX0_anchorFor_15 (by decide) rfl ?_
    refine tr_iload_n (i := 0) dX0_anchorFor_16 rfl ?_
    refine tr_iconst (v := 2) dX0_anchorFor_17 (by decide +kernel) ?_
    refine tr_icne (o := none) (tgt := 28) dX0_anchorFor_18 (by decide) ?_ ?_
    · refine tr_iload_n (i := 0) dX0_anchorFor_28 rfl ?_
      refine tr_ifne (o := none) (tgt := 39) dX0_anchorFor_29 (by decide) ?_ ?_
      · refine tr_aload_n (i := 1) dX0_anchorFor_39 rfl ?_
        refine tr_getI 7 (ra_X6_told (rk_0_0 h0) e_v1) fl_X0_128 (by decide +kernel) dX0_anchorFor_40 ?_
        exact tr_iret rfl rfl (by decide) (by decide) dX0_anchorFor_43
      · refine tr_aload_n (i := 1) dX0_anchorFor_32 rfl ?_
        refine tr_getI 7 (ra_X6_told (rk_0_0 h0) e_v1) fl_X0_125 (by decide +kernel) dX0_anchorFor_33 ?_
        refine tr_goto (tgt := 43) dX0_anchorFor_36 (by decide) ?_
        exact tr_iret rfl rfl (by decide) (by decide) dX0_anchorFor_43
    · refine tr_aload_n (i := 1) dX0_anchorFor_21 rfl ?_
      refine tr_getI 7 (ra_X6_told (rk_0_0 h0) e_v1) fl_X0_118 (by decide +kernel) dX0_anchorFor_22 ?_
      refine tr_iconst (v := 2) dX0_anchorFor_25 (by decide +kernel) ?_
      refine tr_idiv (o := none) dX0_anchorFor_26 (fun v2 => ?_)
      exact tr_iret rfl rfl (by decide) (by decide) dX0_anchorFor_27
  · refine tr_iconst (v := 0) dX0_anchorFor_5 (by decide +kernel) ?_
    exact tr_iret rfl rfl (by decide) (by decide) dX0_anchorFor_6
theorem dX0_addBox_0 : decode cX0_addBox 0 = .ok (.aload_n 0, 1) := by decide +kernel
theorem dX0_addBox_1 : decode cX0_addBox 1 = .ok (.getfield 20, 3) := by decide +kernel
theorem dX0_addBox_4 : decode cX0_addBox 4 = .ok (.iload_n 1, 1) := by decide +kernel
theorem dX0_addBox_5 : decode cX0_addBox 5 = .ok (.invokevirtual 131, 3) := by decide +kernel
theorem dX0_addBox_8 : decode cX0_addBox 8 = .ok (.aload_n 0, 1) := by decide +kernel
theorem dX0_addBox_9 : decode cX0_addBox 9 = .ok (.getfield 24, 3) := by decide +kernel
theorem dX0_addBox_12 : decode cX0_addBox 12 = .ok (.iload_n 2, 1) := by decide +kernel
theorem dX0_addBox_13 : decode cX0_addBox 13 = .ok (.invokevirtual 131, 3) := by decide +kernel
theorem dX0_addBox_16 : decode cX0_addBox 16 = .ok (.aload_n 0, 1) := by decide +kernel
theorem dX0_addBox_17 : decode cX0_addBox 17 = .ok (.getfield 27, 3) := by decide +kernel
theorem dX0_addBox_20 : decode cX0_addBox 20 = .ok (.iload_n 3, 1) := by decide +kernel
theorem dX0_addBox_21 : decode cX0_addBox 21 = .ok (.invokevirtual 131, 3) := by decide +kernel
theorem dX0_addBox_24 : decode cX0_addBox 24 = .ok (.aload_n 0, 1) := by decide +kernel
theorem dX0_addBox_25 : decode cX0_addBox 25 = .ok (.getfield 30, 3) := by decide +kernel
theorem dX0_addBox_28 : decode cX0_addBox 28 = .ok (.iload 4, 2) := by decide +kernel
theorem dX0_addBox_30 : decode cX0_addBox 30 = .ok (.invokevirtual 131, 3) := by decide +kernel
theorem dX0_addBox_33 : decode cX0_addBox 33 = .ok (.aload_n 0, 1) := by decide +kernel
theorem dX0_addBox_34 : decode cX0_addBox 34 = .ok (.getfield 33, 3) := by decide +kernel
theorem dX0_addBox_37 : decode cX0_addBox 37 = .ok (.iload 5, 2) := by decide +kernel
theorem dX0_addBox_39 : decode cX0_addBox 39 = .ok (.invokevirtual 131, 3) := by decide +kernel
theorem dX0_addBox_42 : decode cX0_addBox 42 = .ok (.aload_n 0, 1) := by decide +kernel
theorem dX0_addBox_43 : decode cX0_addBox 43 = .ok (.aload_n 0, 1) := by decide +kernel
theorem dX0_addBox_44 : decode cX0_addBox 44 = .ok (.getfield 94, 3) := by decide +kernel
theorem dX0_addBox_47 : decode cX0_addBox 47 = .ok (.iload_n 2, 1) := by decide +kernel
theorem dX0_addBox_48 : decode cX0_addBox 48 = .ok (.invokestatic 88, 3) := by decide +kernel
theorem dX0_addBox_51 : decode cX0_addBox 51 = .ok (.putfield 94, 3) := by decide +kernel
theorem dX0_addBox_54 : decode cX0_addBox 54 = .ok (.aload_n 0, 1) := by decide +kernel
theorem dX0_addBox_55 : decode cX0_addBox 55 = .ok (.aload_n 0, 1) := by decide +kernel
theorem dX0_addBox_56 : decode cX0_addBox 56 = .ok (.getfield 97, 3) := by decide +kernel
theorem dX0_addBox_59 : decode cX0_addBox 59 = .ok (.iload_n 3, 1) := by decide +kernel
theorem dX0_addBox_60 : decode cX0_addBox 60 = .ok (.invokestatic 76, 3) := by decide +kernel
theorem dX0_addBox_63 : decode cX0_addBox 63 = .ok (.putfield 97, 3) := by decide +kernel
theorem dX0_addBox_66 : decode cX0_addBox 66 = .ok (.aload_n 0, 1) := by decide +kernel
theorem dX0_addBox_67 : decode cX0_addBox 67 = .ok (.aload_n 0, 1) := by decide +kernel
theorem dX0_addBox_68 : decode cX0_addBox 68 = .ok (.getfield 69, 3) := by decide +kernel
theorem dX0_addBox_71 : decode cX0_addBox 71 = .ok (.iload 5, 2) := by decide +kernel
theorem dX0_addBox_73 : decode cX0_addBox 73 = .ok (.invokestatic 76, 3) := by decide +kernel
theorem dX0_addBox_76 : decode cX0_addBox 76 = .ok (.putfield 69, 3) := by decide +kernel
theorem dX0_addBox_79 : decode cX0_addBox 79 = .ok (.aload_n 0, 1) := by decide +kernel
theorem dX0_addBox_80 : decode cX0_addBox 80 = .ok (.aload_n 0, 1) := by decide +kernel
theorem dX0_addBox_81 : decode cX0_addBox 81 = .ok (.getfield 82, 3) := by decide +kernel
theorem dX0_addBox_84 : decode cX0_addBox 84 = .ok (.iload 4, 2) := by decide +kernel
theorem dX0_addBox_86 : decode cX0_addBox 86 = .ok (.invokestatic 88, 3) := by decide +kernel
theorem dX0_addBox_89 : decode cX0_addBox 89 = .ok (.putfield 82, 3) := by decide +kernel
theorem dX0_addBox_92 : decode cX0_addBox 92 = .ok (.return_, 1) := by decide +kernel
set_option maxRecDepth 100000 in
theorem sp_X0_addBox (G : MG) (hG : (g_l G).stackTraces = false) (d : Nat) (hd : 1 ≤ d)   (σ : MsSt) (l0 : Nat) (l1 : Int32) (l2 : Int32) (l3 : Int32) (l4 : Int32) (l5 : Int32) (h0 : ms_kd l0 = 1) : MsSpec G mX0_addBox d 0 0 [.ref l0, .int l1, .int l2, .int l3, .int l4, .int l5] σ ms_wv (f_X0_addBox σ l0 l1 l2 l3 l4 l5) := by
  refine ms_start (by decide +kernel) rfl rfl (Nat.le_of_ble_eq_true rfl) ?_
  show TrO G mX0_addBox d 0 0 0 0 ms_wv 0 [(0, .ref l0), (1, .int l1), (2, .int l2), (3, .int l3), (4, .int l4), (5, .int l5)] [] σ ((f_X5_add σ (ms_rf l0 1) l1).bind fun s1 => (f_X5_add s1 (ms_rf l0 2) l2).bind fun s2 => (f_X5_add s2 (ms_rf l0 3) l3).bind fun s3 => (f_X5_add s3 (ms_rf l0 4) l4).bind fun s4 => (f_X5_add s4 (ms_rf l0 5) l5).bind fun s5 => ms_nm (ms_si s5 l0 8 (if l2 < (ms_i s5 l0 8) then l2 else (ms_i s5 l0 8))) fun s6 => ms_nm (ms_si s6 l0 9 (if (ms_i s6 l0 9) < l3 then l3 else (ms_i s6 l0 9))) fun s7 => ms_nm (ms_si s7 l0 10 (if (ms_i s7 l0 10) < l5 then l5 else (ms_i s7 l0 10))) fun s8 => ms_nm (ms_si s8 l0 11 (if l4 < (ms_i s8 l0 11) then l4 else (ms_i s8 l0 11))) fun s9 => some s9)
  refine tr_aload_n (i := 0) dX0_addBox_0 rfl ?_
  refine tr_getR 0 h0 fl_X0_20 (by decide +kernel) dX0_addBox_1 ?_
  refine tr_iload_n (i := 1) dX0_addBox_4 rfl ?_
  refine tr_c_wv (ms_cV (rest := []) (al := [.int l1]) 5 (sp_X5_add G hG (d - 1) (by omega) σ (ms_rf l0 1) l1 (rk_0_1 h0)) (rk_0_1 h0) (by decide +kernel) kl_X0_131 fv_X5_add dX0_addBox_5 (show _ = some 1 by decide +kernel) (by omega) (Nat.le_of_ble_eq_true rfl) (by decide) (by decide)) (fun s1 => ?_)
  refine tr_aload_n (i := 0) dX0_addBox_8 rfl ?_
  refine tr_getR 0 h0 fl_X0_24 (by decide +kernel) dX0_addBox_9 ?_
  refine tr_iload_n (i := 2) dX0_addBox_12 rfl ?_
  refine tr_c_wv (ms_cV (rest := []) (al := [.int l2]) 5 (sp_X5_add G hG (d - 1) (by omega) s1 (ms_rf l0 2) l2 (rk_0_2 h0)) (rk_0_2 h0) (by decide +kernel) kl_X0_131 fv_X5_add dX0_addBox_13 (show _ = some 1 by decide +kernel) (by omega) (Nat.le_of_ble_eq_true rfl) (by decide) (by decide)) (fun s2 => ?_)
  refine tr_aload_n (i := 0) dX0_addBox_16 rfl ?_
  refine tr_getR 0 h0 fl_X0_27 (by decide +kernel) dX0_addBox_17 ?_
  refine tr_iload_n (i := 3) dX0_addBox_20 rfl ?_
  refine tr_c_wv (ms_cV (rest := []) (al := [.int l3]) 5 (sp_X5_add G hG (d - 1) (by omega) s2 (ms_rf l0 3) l3 (rk_0_3 h0)) (rk_0_3 h0) (by decide +kernel) kl_X0_131 fv_X5_add dX0_addBox_21 (show _ = some 1 by decide +kernel) (by omega) (Nat.le_of_ble_eq_true rfl) (by decide) (by decide)) (fun s3 => ?_)
  refine tr_aload_n (i := 0) dX0_addBox_24 rfl ?_
  refine tr_getR 0 h0 fl_X0_30 (by decide +kernel) dX0_addBox_25 ?_
  refine tr_iload (i := 4) dX0_addBox_28 rfl ?_
  refine tr_c_wv (ms_cV (rest := []) (al := [.int l4]) 5 (sp_X5_add G hG (d - 1) (by omega) s3 (ms_rf l0 4) l4 (rk_0_4 h0)) (rk_0_4 h0) (by decide +kernel) kl_X0_131 fv_X5_add dX0_addBox_30 (show _ = some 1 by decide +kernel) (by omega) (Nat.le_of_ble_eq_true rfl) (by decide) (by decide)) (fun s4 => ?_)
  refine tr_aload_n (i := 0) dX0_addBox_33 rfl ?_
  refine tr_getR 0 h0 fl_X0_33 (by decide +kernel) dX0_addBox_34 ?_
  refine tr_iload (i := 5) dX0_addBox_37 rfl ?_
  refine tr_c_wv (ms_cV (rest := []) (al := [.int l5]) 5 (sp_X5_add G hG (d - 1) (by omega) s4 (ms_rf l0 5) l5 (rk_0_5 h0)) (rk_0_5 h0) (by decide +kernel) kl_X0_131 fv_X5_add dX0_addBox_39 (show _ = some 1 by decide +kernel) (by omega) (Nat.le_of_ble_eq_true rfl) (by decide) (by decide)) (fun s5 => ?_)
  refine tr_aload_n (i := 0) dX0_addBox_42 rfl ?_
  refine tr_aload_n (i := 0) dX0_addBox_43 rfl ?_
  refine tr_getI 0 h0 fl_X0_94 (by decide +kernel) dX0_addBox_44 ?_
  refine tr_iload_n (i := 2) dX0_addBox_47 rfl ?_
  refine tr_mmin (List.mem_of_getElem? (i := 1202) (by decide +kernel)) (List.mem_of_getElem? (i := 786) (by decide +kernel)) (List.mem_of_getElem? (i := 144) (by decide +kernel)) (List.mem_of_getElem? (i := 787) (by decide +kernel)) (by omega) (Nat.le_of_ble_eq_true rfl) (by decide) (by decide) dX0_addBox_48 ?_
  refine tr_putI 0 h0 fl_X0_94 (by decide +kernel) dX0_addBox_51 ?_
  refine ms_ltS (fun s6 => ?_)
  refine tr_aload_n (i := 0) dX0_addBox_54 rfl ?_
  refine tr_aload_n (i := 0) dX0_addBox_55 rfl ?_
  refine tr_getI 0 h0 fl_X0_97 (by decide +kernel) dX0_addBox_56 ?_
  refine tr_iload_n (i := 3) dX0_addBox_59 rfl ?_
  refine tr_mmax (List.mem_of_getElem? (i := 1203) (by decide +kernel)) (List.mem_of_getElem? (i := 234) (by decide +kernel)) (List.mem_of_getElem? (i := 144) (by decide +kernel)) (List.mem_of_getElem? (i := 235) (by decide +kernel)) (by omega) (Nat.le_of_ble_eq_true rfl) (by decide) (by decide) dX0_addBox_60 ?_
  refine tr_putI 0 h0 fl_X0_97 (by decide +kernel) dX0_addBox_63 ?_
  refine ms_ltS (fun s7 => ?_)
  refine tr_aload_n (i := 0) dX0_addBox_66 rfl ?_
  refine tr_aload_n (i := 0) dX0_addBox_67 rfl ?_
  refine tr_getI 0 h0 fl_X0_69 (by decide +kernel) dX0_addBox_68 ?_
  refine tr_iload (i := 5) dX0_addBox_71 rfl ?_
  refine tr_mmax (List.mem_of_getElem? (i := 1203) (by decide +kernel)) (List.mem_of_getElem? (i := 234) (by decide +kernel)) (List.mem_of_getElem? (i := 144) (by decide +kernel)) (List.mem_of_getElem? (i := 235) (by decide +kernel)) (by omega) (Nat.le_of_ble_eq_true rfl) (by decide) (by decide) dX0_addBox_73 ?_
  refine tr_putI 0 h0 fl_X0_69 (by decide +kernel) dX0_addBox_76 ?_
  refine ms_ltS (fun s8 => ?_)
  refine tr_aload_n (i := 0) dX0_addBox_79 rfl ?_
  refine tr_aload_n (i := 0) dX0_addBox_80 rfl ?_
  refine tr_getI 0 h0 fl_X0_82 (by decide +kernel) dX0_addBox_81 ?_
  refine tr_iload (i := 4) dX0_addBox_84 rfl ?_
  refine tr_mmin (List.mem_of_getElem? (i := 1202) (by decide +kernel)) (List.mem_of_getElem? (i := 786) (by decide +kernel)) (List.mem_of_getElem? (i := 144) (by decide +kernel)) (List.mem_of_getElem? (i := 787) (by decide +kernel)) (by omega) (Nat.le_of_ble_eq_true rfl) (by decide) (by decide) dX0_addBox_86 ?_
  refine tr_putI 0 h0 fl_X0_82 (by decide +kernel) dX0_addBox_89 ?_
  refine ms_ltS (fun s9 => ?_)
  exact tr_vret rfl rfl (by decide) (by decide) dX0_addBox_92
theorem dX0_layMark_0 : decode cX0_layMark 0 = .ok (.aload_n 0, 1) := by decide +kernel
theorem dX0_layMark_1 : decode cX0_layMark 1 = .ok (.getfield 9, 3) := by decide +kernel
theorem dX0_layMark_4 : decode cX0_layMark 4 = .ok (.iload_n 1, 1) := by decide +kernel
theorem dX0_layMark_5 : decode cX0_layMark 5 = .ok (.invokevirtual 100, 3) := by decide +kernel
theorem dX0_layMark_8 : decode cX0_layMark 8 = .ok (.astore_n 3, 1) := by decide +kernel
theorem dX0_layMark_9 : decode cX0_layMark 9 = .ok (.aload_n 0, 1) := by decide +kernel
theorem dX0_layMark_10 : decode cX0_layMark 10 = .ok (.aload_n 3, 1) := by decide +kernel
theorem dX0_layMark_11 : decode cX0_layMark 11 = .ok (.getfield 109, 3) := by decide +kernel
theorem dX0_layMark_14 : decode cX0_layMark 14 = .ok (.iload_n 2, 1) := by decide +kernel
theorem dX0_layMark_15 : decode cX0_layMark 15 = .ok (.invokevirtual 112, 3) := by decide +kernel
theorem dX0_layMark_18 : decode cX0_layMark 18 = .ok (.aload_n 3, 1) := by decide +kernel
theorem dX0_layMark_19 : decode cX0_layMark 19 = .ok (.getfield 115, 3) := by decide +kernel
theorem dX0_layMark_22 : decode cX0_layMark 22 = .ok (.isub, 1) := by decide +kernel
theorem dX0_layMark_23 : decode cX0_layMark 23 = .ok (.istore 4, 2) := by decide +kernel
theorem dX0_layMark_25 : decode cX0_layMark 25 = .ok (.aload_n 3, 1) := by decide +kernel
theorem dX0_layMark_26 : decode cX0_layMark 26 = .ok (.getfield 109, 3) := by decide +kernel
theorem dX0_layMark_29 : decode cX0_layMark 29 = .ok (.ifCond .ne 25, 3) := by decide +kernel
theorem dX0_layMark_32 : decode cX0_layMark 32 = .ok (.aload_n 0, 1) := by decide +kernel
theorem dX0_layMark_33 : decode cX0_layMark 33 = .ok (.getfield 73, 3) := by decide +kernel
theorem dX0_layMark_36 : decode cX0_layMark 36 = .ok (.iconst 1, 1) := by decide +kernel
theorem dX0_layMark_37 : decode cX0_layMark 37 = .ok (.iadd, 1) := by decide +kernel
theorem dX0_layMark_38 : decode cX0_layMark 38 = .ok (.istore 5, 2) := by decide +kernel
theorem dX0_layMark_40 : decode cX0_layMark 40 = .ok (.aload_n 0, 1) := by decide +kernel
theorem dX0_layMark_41 : decode cX0_layMark 41 = .ok (.iload 5, 2) := by decide +kernel
theorem dX0_layMark_43 : decode cX0_layMark 43 = .ok (.aload_n 3, 1) := by decide +kernel
theorem dX0_layMark_44 : decode cX0_layMark 44 = .ok (.getfield 104, 3) := by decide +kernel
theorem dX0_layMark_47 : decode cX0_layMark 47 = .ok (.iadd, 1) := by decide +kernel
theorem dX0_layMark_48 : decode cX0_layMark 48 = .ok (.putfield 73, 3) := by decide +kernel
theorem dX0_layMark_51 : decode cX0_layMark 51 = .ok (.goto 42, 3) := by decide +kernel
theorem dX0_layMark_54 : decode cX0_layMark 54 = .ok (.aload_n 3, 1) := by decide +kernel
theorem dX0_layMark_55 : decode cX0_layMark 55 = .ok (.getfield 109, 3) := by decide +kernel
theorem dX0_layMark_58 : decode cX0_layMark 58 = .ok (.iconst 1, 1) := by decide +kernel
theorem dX0_layMark_59 : decode cX0_layMark 59 = .ok (.if_icmp .ne 25, 3) := by decide +kernel
theorem dX0_layMark_62 : decode cX0_layMark 62 = .ok (.aload_n 0, 1) := by decide +kernel
theorem dX0_layMark_63 : decode cX0_layMark 63 = .ok (.getfield 85, 3) := by decide +kernel
theorem dX0_layMark_66 : decode cX0_layMark 66 = .ok (.iconst 1, 1) := by decide +kernel
theorem dX0_layMark_67 : decode cX0_layMark 67 = .ok (.isub, 1) := by decide +kernel
theorem dX0_layMark_68 : decode cX0_layMark 68 = .ok (.aload_n 3, 1) := by decide +kernel
theorem dX0_layMark_69 : decode cX0_layMark 69 = .ok (.getfield 104, 3) := by decide +kernel
theorem dX0_layMark_72 : decode cX0_layMark 72 = .ok (.isub, 1) := by decide +kernel
theorem dX0_layMark_73 : decode cX0_layMark 73 = .ok (.istore 5, 2) := by decide +kernel
theorem dX0_layMark_75 : decode cX0_layMark 75 = .ok (.aload_n 0, 1) := by decide +kernel
theorem dX0_layMark_76 : decode cX0_layMark 76 = .ok (.iload 5, 2) := by decide +kernel
theorem dX0_layMark_78 : decode cX0_layMark 78 = .ok (.putfield 85, 3) := by decide +kernel
theorem dX0_layMark_81 : decode cX0_layMark 81 = .ok (.goto 12, 3) := by decide +kernel
theorem dX0_layMark_84 : decode cX0_layMark 84 = .ok (.aload_n 0, 1) := by decide +kernel
theorem dX0_layMark_85 : decode cX0_layMark 85 = .ok (.iload_n 2, 1) := by decide +kernel
theorem dX0_layMark_86 : decode cX0_layMark 86 = .ok (.invokevirtual 50, 3) := by decide +kernel
theorem dX0_layMark_89 : decode cX0_layMark 89 = .ok (.iconst 2, 1) := by decide +kernel
theorem dX0_layMark_90 : decode cX0_layMark 90 = .ok (.idiv, 1) := by decide +kernel
theorem dX0_layMark_91 : decode cX0_layMark 91 = .ok (.istore 5, 2) := by decide +kernel
theorem dX0_layMark_93 : decode cX0_layMark 93 = .ok (.aload_n 0, 1) := by decide +kernel
theorem dX0_layMark_94 : decode cX0_layMark 94 = .ok (.iload_n 1, 1) := by decide +kernel
theorem dX0_layMark_95 : decode cX0_layMark 95 = .ok (.iload 4, 2) := by decide +kernel
theorem dX0_layMark_97 : decode cX0_layMark 97 = .ok (.iload 4, 2) := by decide +kernel
theorem dX0_layMark_99 : decode cX0_layMark 99 = .ok (.aload_n 3, 1) := by decide +kernel
theorem dX0_layMark_100 : decode cX0_layMark 100 = .ok (.getfield 118, 3) := by decide +kernel
theorem dX0_layMark_103 : decode cX0_layMark 103 = .ok (.iadd, 1) := by decide +kernel
theorem dX0_layMark_104 : decode cX0_layMark 104 = .ok (.iload 5, 2) := by decide +kernel
theorem dX0_layMark_106 : decode cX0_layMark 106 = .ok (.iload 5, 2) := by decide +kernel
theorem dX0_layMark_108 : decode cX0_layMark 108 = .ok (.aload_n 3, 1) := by decide +kernel
theorem dX0_layMark_109 : decode cX0_layMark 109 = .ok (.getfield 104, 3) := by decide +kernel
theorem dX0_layMark_112 : decode cX0_layMark 112 = .ok (.iadd, 1) := by decide +kernel
theorem dX0_layMark_113 : decode cX0_layMark 113 = .ok (.invokevirtual 121, 3) := by decide +kernel
theorem dX0_layMark_116 : decode cX0_layMark 116 = .ok (.return_, 1) := by decide +kernel
set_option maxRecDepth 100000 in
theorem t_X0_layMark_93 (G : MG) (hG : (g_l G).stackTraces = false) (d : Nat) (hd : 2 ≤ d)    (σ : MsSt) (l0 : Nat) (l1 : Int32) (l3 : Nat) (l4 : Int32) (l5 : Int32) (h0 : ms_kd l0 = 1) (h3 : ms_kd l3 = 8) : TrO G mX0_layMark d 0 0 0 0 ms_wv 93 [(0, .ref l0), (1, .int l1), (3, .ref l3), (4, .int l4), (5, .int l5)] [] σ (f_X0_layMark_93 σ l0 l1 l3 l4 l5) := by
  show TrO G mX0_layMark d 0 0 0 0 ms_wv 93 [(0, .ref l0), (1, .int l1), (3, .ref l3), (4, .int l4), (5, .int l5)] [] σ ((f_X0_addBox σ l0 l1 l4 (l4 + (ms_i σ l3 6)) l5 (l5 + (ms_i σ l3 7))).bind fun s5 => some s5)
  refine tr_aload_n (i := 0) dX0_layMark_93 rfl ?_
  refine tr_iload_n (i := 1) dX0_layMark_94 rfl ?_
  refine tr_iload (i := 3) dX0_layMark_95 rfl ?_
  refine tr_iload (i := 3) dX0_layMark_97 rfl ?_
  refine tr_aload_n (i := 2) dX0_layMark_99 rfl ?_
  refine tr_getI 7 h3 fl_X0_118 (by decide +kernel) dX0_layMark_100 ?_
  refine tr_iadd dX0_layMark_103 ?_
  refine tr_iload (i := 4) dX0_layMark_104 rfl ?_
  refine tr_iload (i := 4) dX0_layMark_106 rfl ?_
  refine tr_aload_n (i := 2) dX0_layMark_108 rfl ?_
  refine tr_getI 7 h3 fl_X0_104 (by decide +kernel) dX0_layMark_109 ?_
  refine tr_iadd dX0_layMark_112 ?_
  refine tr_c_wv (ms_cV (rest := []) (al := [.int l1, .int l4, .int (l4 + (ms_i σ l3 6)), .int l5, .int (l5 + (ms_i σ l3 7))]) 0 (sp_X0_addBox G hG (d - 1) (by omega) σ l0 l1 l4 (l4 + (ms_i σ l3 6)) l5 (l5 + (ms_i σ l3 7)) h0) h0 (by decide +kernel) kl_X0_121 fv_X0_addBox dX0_layMark_113 (show _ = some 5 by decide +kernel) (by omega) (Nat.le_of_ble_eq_true rfl) (by decide) (by decide)) (fun s5 => ?_)
  exact tr_vret rfl rfl (by decide) (by decide) dX0_layMark_116
set_option maxRecDepth 100000 in
theorem sp_X0_layMark (G : MG) (hG : (g_l G).stackTraces = false) (d : Nat) (hd : 2 ≤ d)   (σ : MsSt) (l0 : Nat) (l1 : Int32) (l2 : Int32) (h0 : ms_kd l0 = 1) : MsSpec G mX0_layMark d 0 0 [.ref l0, .int l1, .int l2] σ ms_wv (f_X0_layMark σ l0 l1 l2) := by
  refine ms_start (by decide +kernel) rfl rfl (Nat.le_of_ble_eq_true rfl) ?_
  show TrO G mX0_layMark d 0 0 0 0 ms_wv 0 [(0, .ref l0), (1, .int l1), (2, .int l2)] [] σ ((f_X6_told σ (ms_rf l0 0) l1).bind fun v1 => (f_X0_anchorFor σ l0 (ms_i σ v1 5) l2).bind fun v2 => if (ms_i σ v1 5) = 0 then ms_nm (ms_si σ l0 6 (((ms_i σ l0 6) + 1) + (ms_i σ v1 7))) fun s7 => f_X0_layMark_93 s7 l0 l1 v1 (v2 - (ms_i σ v1 10)) ((ms_i σ l0 6) + 1) else if (ms_i σ v1 5) = 1 then ms_nm (ms_si σ l0 7 (((ms_i σ l0 7) - 1) - (ms_i σ v1 7))) fun s6 => f_X0_layMark_93 s6 l0 l1 v1 (v2 - (ms_i σ v1 10)) (((ms_i σ l0 7) - 1) - (ms_i σ v1 7)) else (f_X0_heightOf σ l0 l2).bind fun v3 => (ms_idiv v3 2).bind fun v4 => f_X0_layMark_93 σ l0 l1 v1 (v2 - (ms_i σ v1 10)) v4)
  refine tr_aload_n (i := 0) dX0_layMark_0 rfl ?_
  refine tr_getR 0 h0 fl_X0_9 (by decide +kernel) dX0_layMark_1 ?_
  refine tr_iload_n (i := 1) dX0_layMark_4 rfl ?_
  refine tr_c_a (ms_cV (rest := []) (al := [.int l1]) 6 (sp_X6_told G hG (d - 1) (by omega) σ (ms_rf l0 0) l1 (rk_0_0 h0)) (rk_0_0 h0) (by decide +kernel) kl_X0_100 fv_X6_told dX0_layMark_5 (show _ = some 1 by decide +kernel) (by omega) (Nat.le_of_ble_eq_true rfl) (by decide) (by decide)) (fun v1 e_v1 => ?_)
  refine tr_astore_n (lv' := [(0, .ref l0), (1, .int l1), (2, .int l2), (3, .ref v1)]) [1, 2, 3, 0] dX0_layMark_8 (by decide) rfl ?_
  refine tr_aload_n (i := 0) dX0_layMark_9 rfl ?_
  refine tr_aload_n (i := 3) dX0_layMark_10 rfl ?_
  refine tr_getI 7 (ra_X6_told (rk_0_0 h0) e_v1) fl_X0_109 (by decide +kernel) dX0_layMark_11 ?_
  refine tr_iload_n (i := 2) dX0_layMark_14 rfl ?_
  refine tr_c_i (ms_cV (rest := []) (al := [.int (ms_i σ v1 5), .int l2]) 0 (sp_X0_anchorFor G hG (d - 1) (by omega) σ l0 (ms_i σ v1 5) l2 h0) h0 (by decide +kernel) kl_X0_112 fv_X0_anchorFor dX0_layMark_15 (show _ = some 2 by decide +kernel) (by omega) (Nat.le_of_ble_eq_true rfl) (by decide) (by decide)) (fun v2 => ?_)
  refine tr_aload_n (i := 3) dX0_layMark_18 rfl ?_
  refine tr_getI 7 (ra_X6_told (rk_0_0 h0) e_v1) fl_X0_115 (by decide +kernel) dX0_layMark_19 ?_
  refine tr_isub dX0_layMark_22 ?_
  refine tr_istore (lv' := [(0, .ref l0), (1, .int l1), (2, .int l2), (3, .ref v1), (4, .int (v2 - (ms_i σ v1 10)))]) [1, 2, 3, 4, 0] dX0_layMark_23 (by decide) rfl ?_
  refine tr_aload_n (i := 3) dX0_layMark_25 rfl ?_
  refine tr_getI 7 (ra_X6_told (rk_0_0 h0) e_v1) fl_X0_109 (by decide +kernel) dX0_layMark_26 ?_
  refine tr_ifne (o := none) (tgt := 54) dX0_layMark_29 (by decide) ?_ ?_
  · refine tr_aload_n (i := 3) dX0_layMark_54 rfl ?_
    refine tr_getI 7 (ra_X6_told (rk_0_0 h0) e_v1) fl_X0_109 (by decide +kernel) dX0_layMark_55 ?_
    refine tr_iconst (v := 1) dX0_layMark_58 (by decide +kernel) ?_
    refine tr_icne (o := none) (tgt := 84) dX0_layMark_59 (by decide) ?_ ?_
    · refine tr_aload_n (i := 0) dX0_layMark_84 rfl ?_
      refine tr_iload_n (i := 2) dX0_layMark_85 rfl ?_
      refine tr_c_i (ms_cV (rest := []) (al := [.int l2]) 0 (sp_X0_heightOf G hG (d - 1) (by omega) σ l0 l2 h0) h0 (by decide +kernel) kl_X0_50 fv_X0_heightOf dX0_layMark_86 (show _ = some 1 by decide +kernel) (by omega) (Nat.le_of_ble_eq_true rfl) (by decide) (by decide)) (fun v3 => ?_)
      refine tr_iconst (v := 2) dX0_layMark_89 (by decide +kernel) ?_
      refine tr_idiv (o := none) dX0_layMark_90 (fun v4 => ?_)
      refine tr_istore (lv' := [(0, .ref l0), (1, .int l1), (3, .ref v1), (4, .int (v2 - (ms_i σ v1 10))), (5, .int v4)]) [1, 2, 4, 5, 0] dX0_layMark_91 (by decide) rfl ?_
      exact t_X0_layMark_93 G hG d hd σ l0 l1 v1 (v2 - (ms_i σ v1 10)) v4 h0 (ra_X6_told (rk_0_0 h0) e_v1)
    · refine tr_aload_n (i := 0) dX0_layMark_62 rfl ?_
      refine tr_getI 0 h0 fl_X0_85 (by decide +kernel) dX0_layMark_63 ?_
      refine tr_iconst (v := 1) dX0_layMark_66 (by decide +kernel) ?_
      refine tr_isub dX0_layMark_67 ?_
      refine tr_aload_n (i := 3) dX0_layMark_68 rfl ?_
      refine tr_getI 7 (ra_X6_told (rk_0_0 h0) e_v1) fl_X0_104 (by decide +kernel) dX0_layMark_69 ?_
      refine tr_isub dX0_layMark_72 ?_
      refine tr_istore (lv' := [(0, .ref l0), (1, .int l1), (3, .ref v1), (4, .int (v2 - (ms_i σ v1 10))), (5, .int (((ms_i σ l0 7) - 1) - (ms_i σ v1 7)))]) [1, 2, 4, 5, 0] dX0_layMark_73 (by decide) rfl ?_
      refine tr_aload_n (i := 0) dX0_layMark_75 rfl ?_
      refine tr_iload (i := 4) dX0_layMark_76 rfl ?_
      refine tr_putI 0 h0 fl_X0_85 (by decide +kernel) dX0_layMark_78 ?_
      refine ms_ltS (fun s6 => ?_)
      refine tr_goto (tgt := 93) dX0_layMark_81 (by decide) ?_
      exact t_X0_layMark_93 G hG d hd s6 l0 l1 v1 (v2 - (ms_i σ v1 10)) (((ms_i σ l0 7) - 1) - (ms_i σ v1 7)) h0 (ra_X6_told (rk_0_0 h0) e_v1)
  · refine tr_aload_n (i := 0) dX0_layMark_32 rfl ?_
    refine tr_getI 0 h0 fl_X0_73 (by decide +kernel) dX0_layMark_33 ?_
    refine tr_iconst (v := 1) dX0_layMark_36 (by decide +kernel) ?_
    refine tr_iadd dX0_layMark_37 ?_
    refine tr_istore (lv' := [(0, .ref l0), (1, .int l1), (3, .ref v1), (4, .int (v2 - (ms_i σ v1 10))), (5, .int ((ms_i σ l0 6) + 1))]) [1, 2, 4, 5, 0] dX0_layMark_38 (by decide) rfl ?_
    refine tr_aload_n (i := 0) dX0_layMark_40 rfl ?_
    refine tr_iload (i := 4) dX0_layMark_41 rfl ?_
    refine tr_aload_n (i := 2) dX0_layMark_43 rfl ?_
    refine tr_getI 7 (ra_X6_told (rk_0_0 h0) e_v1) fl_X0_104 (by decide +kernel) dX0_layMark_44 ?_
    refine tr_iadd dX0_layMark_47 ?_
    refine tr_putI 0 h0 fl_X0_73 (by decide +kernel) dX0_layMark_48 ?_
    refine ms_ltS (fun s7 => ?_)
    refine tr_goto (tgt := 93) dX0_layMark_51 (by decide) ?_
    exact t_X0_layMark_93 G hG d hd s7 l0 l1 v1 (v2 - (ms_i σ v1 10)) ((ms_i σ l0 6) + 1) h0 (ra_X6_told (rk_0_0 h0) e_v1)
theorem dX0_lay_0 : decode cX0_lay 0 = .ok (.aload_n 1, 1) := by decide +kernel
theorem dX0_lay_1 : decode cX0_lay 1 = .ok (.getfield 36, 3) := by decide +kernel
theorem dX0_lay_4 : decode cX0_lay 4 = .ok (.iload_n 2, 1) := by decide +kernel
theorem dX0_lay_5 : decode cX0_lay 5 = .ok (.invokevirtual 41, 3) := by decide +kernel
theorem dX0_lay_8 : decode cX0_lay 8 = .ok (.istore_n 3, 1) := by decide +kernel
theorem dX0_lay_9 : decode cX0_lay 9 = .ok (.aload_n 0, 1) := by decide +kernel
theorem dX0_lay_10 : decode cX0_lay 10 = .ok (.aload_n 0, 1) := by decide +kernel
theorem dX0_lay_11 : decode cX0_lay 11 = .ok (.getfield 9, 3) := by decide +kernel
theorem dX0_lay_14 : decode cX0_lay 14 = .ok (.iload_n 3, 1) := by decide +kernel
theorem dX0_lay_15 : decode cX0_lay 15 = .ok (.invokevirtual 45, 3) := by decide +kernel
theorem dX0_lay_18 : decode cX0_lay 18 = .ok (.aload_n 0, 1) := by decide +kernel
theorem dX0_lay_19 : decode cX0_lay 19 = .ok (.iload_n 3, 1) := by decide +kernel
theorem dX0_lay_20 : decode cX0_lay 20 = .ok (.invokevirtual 50, 3) := by decide +kernel
theorem dX0_lay_23 : decode cX0_lay 23 = .ok (.invokevirtual 53, 3) := by decide +kernel
theorem dX0_lay_26 : decode cX0_lay 26 = .ok (.aload_n 1, 1) := by decide +kernel
theorem dX0_lay_27 : decode cX0_lay 27 = .ok (.iload_n 2, 1) := by decide +kernel
theorem dX0_lay_28 : decode cX0_lay 28 = .ok (.invokevirtual 57, 3) := by decide +kernel
theorem dX0_lay_31 : decode cX0_lay 31 = .ok (.istore 4, 2) := by decide +kernel
theorem dX0_lay_33 : decode cX0_lay 33 = .ok (.iload 4, 2) := by decide +kernel
theorem dX0_lay_35 : decode cX0_lay 35 = .ok (.aload_n 1, 1) := by decide +kernel
theorem dX0_lay_36 : decode cX0_lay 36 = .ok (.iload_n 2, 1) := by decide +kernel
theorem dX0_lay_37 : decode cX0_lay 37 = .ok (.invokevirtual 60, 3) := by decide +kernel
theorem dX0_lay_40 : decode cX0_lay 40 = .ok (.if_icmp .ge 23, 3) := by decide +kernel
theorem dX0_lay_43 : decode cX0_lay 43 = .ok (.aload_n 0, 1) := by decide +kernel
theorem dX0_lay_44 : decode cX0_lay 44 = .ok (.aload_n 1, 1) := by decide +kernel
theorem dX0_lay_45 : decode cX0_lay 45 = .ok (.getfield 63, 3) := by decide +kernel
theorem dX0_lay_48 : decode cX0_lay 48 = .ok (.iload 4, 2) := by decide +kernel
theorem dX0_lay_50 : decode cX0_lay 50 = .ok (.invokevirtual 41, 3) := by decide +kernel
theorem dX0_lay_53 : decode cX0_lay 53 = .ok (.iload_n 3, 1) := by decide +kernel
theorem dX0_lay_54 : decode cX0_lay 54 = .ok (.invokevirtual 66, 3) := by decide +kernel
theorem dX0_lay_57 : decode cX0_lay 57 = .ok (.iinc 4 1, 3) := by decide +kernel
theorem dX0_lay_60 : decode cX0_lay 60 = .ok (.goto (-27), 3) := by decide +kernel
theorem dX0_lay_63 : decode cX0_lay 63 = .ok (.aload_n 0, 1) := by decide +kernel
theorem dX0_lay_64 : decode cX0_lay 64 = .ok (.aload_n 0, 1) := by decide +kernel
theorem dX0_lay_65 : decode cX0_lay 65 = .ok (.getfield 69, 3) := by decide +kernel
theorem dX0_lay_68 : decode cX0_lay 68 = .ok (.aload_n 0, 1) := by decide +kernel
theorem dX0_lay_69 : decode cX0_lay 69 = .ok (.getfield 73, 3) := by decide +kernel
theorem dX0_lay_72 : decode cX0_lay 72 = .ok (.invokestatic 76, 3) := by decide +kernel
theorem dX0_lay_75 : decode cX0_lay 75 = .ok (.putfield 69, 3) := by decide +kernel
theorem dX0_lay_78 : decode cX0_lay 78 = .ok (.aload_n 0, 1) := by decide +kernel
theorem dX0_lay_79 : decode cX0_lay 79 = .ok (.aload_n 0, 1) := by decide +kernel
theorem dX0_lay_80 : decode cX0_lay 80 = .ok (.getfield 82, 3) := by decide +kernel
theorem dX0_lay_83 : decode cX0_lay 83 = .ok (.aload_n 0, 1) := by decide +kernel
theorem dX0_lay_84 : decode cX0_lay 84 = .ok (.getfield 85, 3) := by decide +kernel
theorem dX0_lay_87 : decode cX0_lay 87 = .ok (.invokestatic 88, 3) := by decide +kernel
theorem dX0_lay_90 : decode cX0_lay 90 = .ok (.putfield 82, 3) := by decide +kernel
theorem dX0_lay_93 : decode cX0_lay 93 = .ok (.return_, 1) := by decide +kernel
set_option maxRecDepth 100000 in
theorem t_X0_lay_33 (G : MG) (hG : (g_l G).stackTraces = false) (d : Nat) (hd : 3 ≤ d)    : ∀ (n : Nat) (σ : MsSt) (l0 : Nat) (l1 : Nat) (l2 : Int32) (l3 : Int32) (l4 : Int32) (h0 : ms_kd l0 = 1) (h1 : ms_kd l1 = 2), TrO G mX0_lay d 0 0 0 0 ms_wv 33 [(0, .ref l0), (1, .ref l1), (2, .int l2), (3, .int l3), (4, .int l4)] [] σ (f_X0_lay_33 n σ l0 l1 l2 l3 l4) := by
  intro n
  induction n with
  | zero => exact fun _ _ _ _ _ _ _ _ => tr_none
  | succ n ih =>
    intro σ l0 l1 l2 l3 l4 h0 h1
    show TrO G mX0_lay d 0 0 0 0 ms_wv 33 [(0, .ref l0), (1, .ref l1), (2, .int l2), (3, .int l3), (4, .int l4)] [] σ ((f_X1_endOf σ l1 l2).bind fun v6 => if l4 < v6 then (f_X5_get σ (ms_rf l1 2) l4).bind fun v9 => (f_X0_layMark σ l0 v9 l3).bind fun s10 => (f_X0_lay_33 n) s10 l0 l1 l2 l3 (l4 + 1) else ms_nm (ms_si σ l0 10 (if (ms_i σ l0 10) < (ms_i σ l0 6) then (ms_i σ l0 6) else (ms_i σ l0 10))) fun s7 => ms_nm (ms_si s7 l0 11 (if (ms_i s7 l0 7) < (ms_i s7 l0 11) then (ms_i s7 l0 7) else (ms_i s7 l0 11))) fun s8 => some s8)
    refine tr_iload (i := 4) dX0_lay_33 rfl ?_
    refine tr_aload_n (i := 1) dX0_lay_35 rfl ?_
    refine tr_iload_n (i := 2) dX0_lay_36 rfl ?_
    refine tr_c_i (ms_cV (rest := [.int l4]) (al := [.int l2]) 1 (sp_X1_endOf G hG (d - 1) (by omega) σ l1 l2 h1) h1 (by decide +kernel) kl_X0_60 fv_X1_endOf dX0_lay_37 (show _ = some 1 by decide +kernel) (by omega) (Nat.le_of_ble_eq_true rfl) (by decide) (by decide)) (fun v6 => ?_)
    refine tr_icge (o := none) (tgt := 63) dX0_lay_40 (by decide) ?_ ?_
    · refine tr_aload_n (i := 0) dX0_lay_63 rfl ?_
      refine tr_aload_n (i := 0) dX0_lay_64 rfl ?_
      refine tr_getI 0 h0 fl_X0_69 (by decide +kernel) dX0_lay_65 ?_
      refine tr_aload_n (i := 0) dX0_lay_68 rfl ?_
      refine tr_getI 0 h0 fl_X0_73 (by decide +kernel) dX0_lay_69 ?_
      refine tr_mmax (List.mem_of_getElem? (i := 1203) (by decide +kernel)) (List.mem_of_getElem? (i := 234) (by decide +kernel)) (List.mem_of_getElem? (i := 144) (by decide +kernel)) (List.mem_of_getElem? (i := 235) (by decide +kernel)) (by omega) (Nat.le_of_ble_eq_true rfl) (by decide) (by decide) dX0_lay_72 ?_
      refine tr_putI 0 h0 fl_X0_69 (by decide +kernel) dX0_lay_75 ?_
      refine ms_ltS (fun s7 => ?_)
      refine tr_aload_n (i := 0) dX0_lay_78 rfl ?_
      refine tr_aload_n (i := 0) dX0_lay_79 rfl ?_
      refine tr_getI 0 h0 fl_X0_82 (by decide +kernel) dX0_lay_80 ?_
      refine tr_aload_n (i := 0) dX0_lay_83 rfl ?_
      refine tr_getI 0 h0 fl_X0_85 (by decide +kernel) dX0_lay_84 ?_
      refine tr_mmin (List.mem_of_getElem? (i := 1202) (by decide +kernel)) (List.mem_of_getElem? (i := 786) (by decide +kernel)) (List.mem_of_getElem? (i := 144) (by decide +kernel)) (List.mem_of_getElem? (i := 787) (by decide +kernel)) (by omega) (Nat.le_of_ble_eq_true rfl) (by decide) (by decide) dX0_lay_87 ?_
      refine tr_putI 0 h0 fl_X0_82 (by decide +kernel) dX0_lay_90 ?_
      refine ms_ltS (fun s8 => ?_)
      exact tr_vret rfl rfl (by decide) (by decide) dX0_lay_93
    · refine tr_aload_n (i := 0) dX0_lay_43 rfl ?_
      refine tr_aload_n (i := 1) dX0_lay_44 rfl ?_
      refine tr_getR 1 h1 fl_X0_63 (by decide +kernel) dX0_lay_45 ?_
      refine tr_iload (i := 4) dX0_lay_48 rfl ?_
      refine tr_c_i (ms_cV (rest := [.ref l0]) (al := [.int l4]) 5 (sp_X5_get G hG (d - 1) (by omega) σ (ms_rf l1 2) l4 (rk_1_2 h1)) (rk_1_2 h1) (by decide +kernel) kl_X0_41 fv_X5_get dX0_lay_50 (show _ = some 1 by decide +kernel) (by omega) (Nat.le_of_ble_eq_true rfl) (by decide) (by decide)) (fun v9 => ?_)
      refine tr_iload_n (i := 3) dX0_lay_53 rfl ?_
      refine tr_c_wv (ms_cV (rest := []) (al := [.int v9, .int l3]) 0 (sp_X0_layMark G hG (d - 1) (by omega) σ l0 v9 l3 h0) h0 (by decide +kernel) kl_X0_66 fv_X0_layMark dX0_lay_54 (show _ = some 2 by decide +kernel) (by omega) (Nat.le_of_ble_eq_true rfl) (by decide) (by decide)) (fun s10 => ?_)
      refine tr_iinc (k := 4) (v := (l4 + 1)) (lv' := [(0, .ref l0), (1, .ref l1), (2, .int l2), (3, .int l3), (4, .int (l4 + 1))]) [1, 2, 3, 4, 0] dX0_lay_57 rfl rfl (by decide) rfl ?_
      refine tr_goto (tgt := 33) dX0_lay_60 (by decide) ?_
      exact (fun s y0 y1 y2 y3 y4 g0 g1 => ih s y0 y1 y2 y3 y4 g0 g1) s10 l0 l1 l2 l3 (l4 + 1) h0 h1
set_option maxRecDepth 100000 in
theorem sp_X0_lay (G : MG) (hG : (g_l G).stackTraces = false) (d : Nat) (hd : 3 ≤ d)   (σ : MsSt) (l0 : Nat) (l1 : Nat) (l2 : Int32) (h0 : ms_kd l0 = 1) (h1 : ms_kd l1 = 2) : MsSpec G mX0_lay d 0 0 [.ref l0, .ref l1, .int l2] σ ms_wv (f_X0_lay σ l0 l1 l2) := by
  refine ms_start (by decide +kernel) rfl rfl (Nat.le_of_ble_eq_true rfl) ?_
  show TrO G mX0_lay d 0 0 0 0 ms_wv 0 [(0, .ref l0), (1, .ref l1), (2, .int l2)] [] σ ((f_X5_get σ (ms_rf l1 5) l2).bind fun v1 => (f_X6_widthOf σ (ms_rf l0 0) v1).bind fun v2 => (f_X0_heightOf σ l0 v1).bind fun v3 => (f_X0_begin σ l0 v2 v3).bind fun s4 => (f_X1_firstMark s4 l1 l2).bind fun v5 => f_X0_lay_33 ms_fuel s4 l0 l1 l2 v1 v5)
  refine tr_aload_n (i := 1) dX0_lay_0 rfl ?_
  refine tr_getR 1 h1 fl_X0_36 (by decide +kernel) dX0_lay_1 ?_
  refine tr_iload_n (i := 2) dX0_lay_4 rfl ?_
  refine tr_c_i (ms_cV (rest := []) (al := [.int l2]) 5 (sp_X5_get G hG (d - 1) (by omega) σ (ms_rf l1 5) l2 (rk_1_5 h1)) (rk_1_5 h1) (by decide +kernel) kl_X0_41 fv_X5_get dX0_lay_5 (show _ = some 1 by decide +kernel) (by omega) (Nat.le_of_ble_eq_true rfl) (by decide) (by decide)) (fun v1 => ?_)
  refine tr_istore_n (lv' := [(0, .ref l0), (1, .ref l1), (2, .int l2), (3, .int v1)]) [1, 2, 3, 0] dX0_lay_8 (by decide) rfl ?_
  refine tr_aload_n (i := 0) dX0_lay_9 rfl ?_
  refine tr_aload_n (i := 0) dX0_lay_10 rfl ?_
  refine tr_getR 0 h0 fl_X0_9 (by decide +kernel) dX0_lay_11 ?_
  refine tr_iload_n (i := 3) dX0_lay_14 rfl ?_
  refine tr_c_i (ms_cV (rest := [.ref l0]) (al := [.int v1]) 6 (sp_X6_widthOf G hG (d - 1) (by omega) σ (ms_rf l0 0) v1 (rk_0_0 h0)) (rk_0_0 h0) (by decide +kernel) kl_X0_45 fv_X6_widthOf dX0_lay_15 (show _ = some 1 by decide +kernel) (by omega) (Nat.le_of_ble_eq_true rfl) (by decide) (by decide)) (fun v2 => ?_)
  refine tr_aload_n (i := 0) dX0_lay_18 rfl ?_
  refine tr_iload_n (i := 3) dX0_lay_19 rfl ?_
  refine tr_c_i (ms_cV (rest := [.int v2, .ref l0]) (al := [.int v1]) 0 (sp_X0_heightOf G hG (d - 1) (by omega) σ l0 v1 h0) h0 (by decide +kernel) kl_X0_50 fv_X0_heightOf dX0_lay_20 (show _ = some 1 by decide +kernel) (by omega) (Nat.le_of_ble_eq_true rfl) (by decide) (by decide)) (fun v3 => ?_)
  refine tr_c_wv (ms_cV (rest := []) (al := [.int v2, .int v3]) 0 (sp_X0_begin G hG (d - 1) (by omega) σ l0 v2 v3 h0) h0 (by decide +kernel) kl_X0_53 fv_X0_begin dX0_lay_23 (show _ = some 2 by decide +kernel) (by omega) (Nat.le_of_ble_eq_true rfl) (by decide) (by decide)) (fun s4 => ?_)
  refine tr_aload_n (i := 1) dX0_lay_26 rfl ?_
  refine tr_iload_n (i := 2) dX0_lay_27 rfl ?_
  refine tr_c_i (ms_cV (rest := []) (al := [.int l2]) 1 (sp_X1_firstMark G hG (d - 1) (by omega) s4 l1 l2 h1) h1 (by decide +kernel) kl_X0_57 fv_X1_firstMark dX0_lay_28 (show _ = some 1 by decide +kernel) (by omega) (Nat.le_of_ble_eq_true rfl) (by decide) (by decide)) (fun v5 => ?_)
  refine tr_istore (lv' := [(0, .ref l0), (1, .ref l1), (2, .int l2), (3, .int v1), (4, .int v5)]) [1, 2, 3, 4, 0] dX0_lay_31 (by decide) rfl ?_
  exact t_X0_lay_33 G hG d hd ms_fuel s4 l0 l1 l2 v1 v5 h0 h1
theorem dX0_overlapsAt_0 : decode cX0_overlapsAt 0 = .ok (.aload_n 0, 1) := by decide +kernel
theorem dX0_overlapsAt_1 : decode cX0_overlapsAt 1 = .ok (.getfield 24, 3) := by decide +kernel
theorem dX0_overlapsAt_4 : decode cX0_overlapsAt 4 = .ok (.iload_n 1, 1) := by decide +kernel
theorem dX0_overlapsAt_5 : decode cX0_overlapsAt 5 = .ok (.invokevirtual 41, 3) := by decide +kernel
theorem dX0_overlapsAt_8 : decode cX0_overlapsAt 8 = .ok (.aload_n 2, 1) := by decide +kernel
theorem dX0_overlapsAt_9 : decode cX0_overlapsAt 9 = .ok (.getfield 27, 3) := by decide +kernel
theorem dX0_overlapsAt_12 : decode cX0_overlapsAt 12 = .ok (.iload_n 3, 1) := by decide +kernel
theorem dX0_overlapsAt_13 : decode cX0_overlapsAt 13 = .ok (.invokevirtual 41, 3) := by decide +kernel
theorem dX0_overlapsAt_16 : decode cX0_overlapsAt 16 = .ok (.iload 4, 2) := by decide +kernel
theorem dX0_overlapsAt_18 : decode cX0_overlapsAt 18 = .ok (.iadd, 1) := by decide +kernel
theorem dX0_overlapsAt_19 : decode cX0_overlapsAt 19 = .ok (.if_icmp .ge 67, 3) := by decide +kernel
theorem dX0_overlapsAt_22 : decode cX0_overlapsAt 22 = .ok (.aload_n 2, 1) := by decide +kernel
theorem dX0_overlapsAt_23 : decode cX0_overlapsAt 23 = .ok (.getfield 24, 3) := by decide +kernel
theorem dX0_overlapsAt_26 : decode cX0_overlapsAt 26 = .ok (.iload_n 3, 1) := by decide +kernel
theorem dX0_overlapsAt_27 : decode cX0_overlapsAt 27 = .ok (.invokevirtual 41, 3) := by decide +kernel
theorem dX0_overlapsAt_30 : decode cX0_overlapsAt 30 = .ok (.iload 4, 2) := by decide +kernel
theorem dX0_overlapsAt_32 : decode cX0_overlapsAt 32 = .ok (.iadd, 1) := by decide +kernel
theorem dX0_overlapsAt_33 : decode cX0_overlapsAt 33 = .ok (.aload_n 0, 1) := by decide +kernel
theorem dX0_overlapsAt_34 : decode cX0_overlapsAt 34 = .ok (.getfield 27, 3) := by decide +kernel
theorem dX0_overlapsAt_37 : decode cX0_overlapsAt 37 = .ok (.iload_n 1, 1) := by decide +kernel
theorem dX0_overlapsAt_38 : decode cX0_overlapsAt 38 = .ok (.invokevirtual 41, 3) := by decide +kernel
theorem dX0_overlapsAt_41 : decode cX0_overlapsAt 41 = .ok (.if_icmp .ge 45, 3) := by decide +kernel
theorem dX0_overlapsAt_44 : decode cX0_overlapsAt 44 = .ok (.aload_n 0, 1) := by decide +kernel
theorem dX0_overlapsAt_45 : decode cX0_overlapsAt 45 = .ok (.getfield 30, 3) := by decide +kernel
theorem dX0_overlapsAt_48 : decode cX0_overlapsAt 48 = .ok (.iload_n 1, 1) := by decide +kernel
theorem dX0_overlapsAt_49 : decode cX0_overlapsAt 49 = .ok (.invokevirtual 41, 3) := by decide +kernel
theorem dX0_overlapsAt_52 : decode cX0_overlapsAt 52 = .ok (.aload_n 2, 1) := by decide +kernel
theorem dX0_overlapsAt_53 : decode cX0_overlapsAt 53 = .ok (.getfield 33, 3) := by decide +kernel
theorem dX0_overlapsAt_56 : decode cX0_overlapsAt 56 = .ok (.iload_n 3, 1) := by decide +kernel
theorem dX0_overlapsAt_57 : decode cX0_overlapsAt 57 = .ok (.invokevirtual 41, 3) := by decide +kernel
theorem dX0_overlapsAt_60 : decode cX0_overlapsAt 60 = .ok (.if_icmp .ge 26, 3) := by decide +kernel
theorem dX0_overlapsAt_63 : decode cX0_overlapsAt 63 = .ok (.aload_n 2, 1) := by decide +kernel
theorem dX0_overlapsAt_64 : decode cX0_overlapsAt 64 = .ok (.getfield 30, 3) := by decide +kernel
theorem dX0_overlapsAt_67 : decode cX0_overlapsAt 67 = .ok (.iload_n 3, 1) := by decide +kernel
theorem dX0_overlapsAt_68 : decode cX0_overlapsAt 68 = .ok (.invokevirtual 41, 3) := by decide +kernel
theorem dX0_overlapsAt_71 : decode cX0_overlapsAt 71 = .ok (.aload_n 0, 1) := by decide +kernel
theorem dX0_overlapsAt_72 : decode cX0_overlapsAt 72 = .ok (.getfield 33, 3) := by decide +kernel
theorem dX0_overlapsAt_75 : decode cX0_overlapsAt 75 = .ok (.iload_n 1, 1) := by decide +kernel
theorem dX0_overlapsAt_76 : decode cX0_overlapsAt 76 = .ok (.invokevirtual 41, 3) := by decide +kernel
theorem dX0_overlapsAt_79 : decode cX0_overlapsAt 79 = .ok (.if_icmp .ge 7, 3) := by decide +kernel
theorem dX0_overlapsAt_82 : decode cX0_overlapsAt 82 = .ok (.iconst 1, 1) := by decide +kernel
theorem dX0_overlapsAt_83 : decode cX0_overlapsAt 83 = .ok (.goto 4, 3) := by decide +kernel
theorem dX0_overlapsAt_86 : decode cX0_overlapsAt 86 = .ok (.iconst 0, 1) := by decide +kernel
theorem dX0_overlapsAt_87 : decode cX0_overlapsAt 87 = .ok (.ireturn, 1) := by decide +kernel
set_option maxRecDepth 100000 in
theorem sp_X0_overlapsAt (G : MG) (hG : (g_l G).stackTraces = false) (d : Nat) (hd : 1 ≤ d)   (σ : MsSt) (l0 : Nat) (l1 : Int32) (l2 : Nat) (l3 : Int32) (l4 : Int32) (h0 : ms_kd l0 = 1) (h2 : ms_kd l2 = 1) : MsSpec G mX0_overlapsAt d 0 0 [.ref l0, .int l1, .ref l2, .int l3, .int l4] σ (ms_ki σ) (f_X0_overlapsAt σ l0 l1 l2 l3 l4) := by
  refine ms_start (by decide +kernel) rfl rfl (Nat.le_of_ble_eq_true rfl) ?_
  show TrO G mX0_overlapsAt d 0 0 0 0 (ms_ki σ) 0 [(0, .ref l0), (1, .int l1), (2, .ref l2), (3, .int l3), (4, .int l4)] [] σ ((f_X5_get σ (ms_rf l0 2) l1).bind fun v1 => (f_X5_get σ (ms_rf l2 3) l3).bind fun v2 => if v1 < (v2 + l4) then (f_X5_get σ (ms_rf l2 2) l3).bind fun v3 => (f_X5_get σ (ms_rf l0 3) l1).bind fun v4 => if (v3 + l4) < v4 then (f_X5_get σ (ms_rf l0 4) l1).bind fun v5 => (f_X5_get σ (ms_rf l2 5) l3).bind fun v6 => if v5 < v6 then (f_X5_get σ (ms_rf l2 4) l3).bind fun v7 => (f_X5_get σ (ms_rf l0 5) l1).bind fun v8 => if v7 < v8 then some 1 else some 0 else some 0 else some 0 else some 0)
  refine tr_aload_n (i := 0) dX0_overlapsAt_0 rfl ?_
  refine tr_getR 0 h0 fl_X0_24 (by decide +kernel) dX0_overlapsAt_1 ?_
  refine tr_iload_n (i := 1) dX0_overlapsAt_4 rfl ?_
  refine tr_c_i (ms_cV (rest := []) (al := [.int l1]) 5 (sp_X5_get G hG (d - 1) (by omega) σ (ms_rf l0 2) l1 (rk_0_2 h0)) (rk_0_2 h0) (by decide +kernel) kl_X0_41 fv_X5_get dX0_overlapsAt_5 (show _ = some 1 by decide +kernel) (by omega) (Nat.le_of_ble_eq_true rfl) (by decide) (by decide)) (fun v1 => ?_)
  refine tr_aload_n (i := 2) dX0_overlapsAt_8 rfl ?_
  refine tr_getR 0 h2 fl_X0_27 (by decide +kernel) dX0_overlapsAt_9 ?_
  refine tr_iload_n (i := 3) dX0_overlapsAt_12 rfl ?_
  refine tr_c_i (ms_cV (rest := [.int v1]) (al := [.int l3]) 5 (sp_X5_get G hG (d - 1) (by omega) σ (ms_rf l2 3) l3 (rk_0_3 h2)) (rk_0_3 h2) (by decide +kernel) kl_X0_41 fv_X5_get dX0_overlapsAt_13 (show _ = some 1 by decide +kernel) (by omega) (Nat.le_of_ble_eq_true rfl) (by decide) (by decide)) (fun v2 => ?_)
  refine tr_iload (i := 4) dX0_overlapsAt_16 rfl ?_
  refine tr_iadd dX0_overlapsAt_18 ?_
  refine tr_icge (o := none) (tgt := 86) dX0_overlapsAt_19 (by decide) ?_ ?_
  · refine tr_iconst (v := 0) dX0_overlapsAt_86 (by decide +kernel) ?_
    exact tr_zret rfl (by decide +kernel) rfl (by decide) (by decide) dX0_overlapsAt_87
  · refine tr_aload_n (i := 2) dX0_overlapsAt_22 rfl ?_
    refine tr_getR 0 h2 fl_X0_24 (by decide +kernel) dX0_overlapsAt_23 ?_
    refine tr_iload_n (i := 3) dX0_overlapsAt_26 rfl ?_
    refine tr_c_i (ms_cV (rest := []) (al := [.int l3]) 5 (sp_X5_get G hG (d - 1) (by omega) σ (ms_rf l2 2) l3 (rk_0_2 h2)) (rk_0_2 h2) (by decide +kernel) kl_X0_41 fv_X5_get dX0_overlapsAt_27 (show _ = some 1 by decide +kernel) (by omega) (Nat.le_of_ble_eq_true rfl) (by decide) (by decide)) (fun v3 => ?_)
    refine tr_iload (i := 4) dX0_overlapsAt_30 rfl ?_
    refine tr_iadd dX0_overlapsAt_32 ?_
    refine tr_aload_n (i := 0) dX0_overlapsAt_33 rfl ?_
    refine tr_getR 0 h0 fl_X0_27 (by decide +kernel) dX0_overlapsAt_34 ?_
    refine tr_iload_n (i := 1) dX0_overlapsAt_37 rfl ?_
    refine tr_c_i (ms_cV (rest := [.int (v3 + l4)]) (al := [.int l1]) 5 (sp_X5_get G hG (d - 1) (by omega) σ (ms_rf l0 3) l1 (rk_0_3 h0)) (rk_0_3 h0) (by decide +kernel) kl_X0_41 fv_X5_get dX0_overlapsAt_38 (show _ = some 1 by decide +kernel) (by omega) (Nat.le_of_ble_eq_true rfl) (by decide) (by decide)) (fun v4 => ?_)
    refine tr_icge (o := none) (tgt := 86) dX0_overlapsAt_41 (by decide) ?_ ?_
    · refine tr_iconst (v := 0) dX0_overlapsAt_86 (by decide +kernel) ?_
      exact tr_zret rfl (by decide +kernel) rfl (by decide) (by decide) dX0_overlapsAt_87
    · refine tr_aload_n (i := 0) dX0_overlapsAt_44 rfl ?_
      refine tr_getR 0 h0 fl_X0_30 (by decide +kernel) dX0_overlapsAt_45 ?_
      refine tr_iload_n (i := 1) dX0_overlapsAt_48 rfl ?_
      refine tr_c_i (ms_cV (rest := []) (al := [.int l1]) 5 (sp_X5_get G hG (d - 1) (by omega) σ (ms_rf l0 4) l1 (rk_0_4 h0)) (rk_0_4 h0) (by decide +kernel) kl_X0_41 fv_X5_get dX0_overlapsAt_49 (show _ = some 1 by decide +kernel) (by omega) (Nat.le_of_ble_eq_true rfl) (by decide) (by decide)) (fun v5 => ?_)
      refine tr_aload_n (i := 2) dX0_overlapsAt_52 rfl ?_
      refine tr_getR 0 h2 fl_X0_33 (by decide +kernel) dX0_overlapsAt_53 ?_
      refine tr_iload_n (i := 3) dX0_overlapsAt_56 rfl ?_
      refine tr_c_i (ms_cV (rest := [.int v5]) (al := [.int l3]) 5 (sp_X5_get G hG (d - 1) (by omega) σ (ms_rf l2 5) l3 (rk_0_5 h2)) (rk_0_5 h2) (by decide +kernel) kl_X0_41 fv_X5_get dX0_overlapsAt_57 (show _ = some 1 by decide +kernel) (by omega) (Nat.le_of_ble_eq_true rfl) (by decide) (by decide)) (fun v6 => ?_)
      refine tr_icge (o := none) (tgt := 86) dX0_overlapsAt_60 (by decide) ?_ ?_
      · refine tr_iconst (v := 0) dX0_overlapsAt_86 (by decide +kernel) ?_
        exact tr_zret rfl (by decide +kernel) rfl (by decide) (by decide) dX0_overlapsAt_87
      · refine tr_aload_n (i := 2) dX0_overlapsAt_63 rfl ?_
        refine tr_getR 0 h2 fl_X0_30 (by decide +kernel) dX0_overlapsAt_64 ?_
        refine tr_iload_n (i := 3) dX0_overlapsAt_67 rfl ?_
        refine tr_c_i (ms_cV (rest := []) (al := [.int l3]) 5 (sp_X5_get G hG (d - 1) (by omega) σ (ms_rf l2 4) l3 (rk_0_4 h2)) (rk_0_4 h2) (by decide +kernel) kl_X0_41 fv_X5_get dX0_overlapsAt_68 (show _ = some 1 by decide +kernel) (by omega) (Nat.le_of_ble_eq_true rfl) (by decide) (by decide)) (fun v7 => ?_)
        refine tr_aload_n (i := 0) dX0_overlapsAt_71 rfl ?_
        refine tr_getR 0 h0 fl_X0_33 (by decide +kernel) dX0_overlapsAt_72 ?_
        refine tr_iload_n (i := 1) dX0_overlapsAt_75 rfl ?_
        refine tr_c_i (ms_cV (rest := [.int v7]) (al := [.int l1]) 5 (sp_X5_get G hG (d - 1) (by omega) σ (ms_rf l0 5) l1 (rk_0_5 h0)) (rk_0_5 h0) (by decide +kernel) kl_X0_41 fv_X5_get dX0_overlapsAt_76 (show _ = some 1 by decide +kernel) (by omega) (Nat.le_of_ble_eq_true rfl) (by decide) (by decide)) (fun v8 => ?_)
        refine tr_icge (o := none) (tgt := 86) dX0_overlapsAt_79 (by decide) ?_ ?_
        · refine tr_iconst (v := 0) dX0_overlapsAt_86 (by decide +kernel) ?_
          exact tr_zret rfl (by decide +kernel) rfl (by decide) (by decide) dX0_overlapsAt_87
        · refine tr_iconst (v := 1) dX0_overlapsAt_82 (by decide +kernel) ?_
          refine tr_goto (tgt := 87) dX0_overlapsAt_83 (by decide) ?_
          exact tr_zret rfl (by decide +kernel) rfl (by decide) (by decide) dX0_overlapsAt_87
theorem dX0_overlaps_0 : decode cX0_overlaps 0 = .ok (.iconst 0, 1) := by decide +kernel
theorem dX0_overlaps_1 : decode cX0_overlaps 1 = .ok (.istore_n 3, 1) := by decide +kernel
theorem dX0_overlaps_2 : decode cX0_overlaps 2 = .ok (.iload_n 3, 1) := by decide +kernel
theorem dX0_overlaps_3 : decode cX0_overlaps 3 = .ok (.aload_n 0, 1) := by decide +kernel
theorem dX0_overlaps_4 : decode cX0_overlaps 4 = .ok (.getfield 20, 3) := by decide +kernel
theorem dX0_overlaps_7 : decode cX0_overlaps 7 = .ok (.getfield 134, 3) := by decide +kernel
theorem dX0_overlaps_10 : decode cX0_overlaps 10 = .ok (.if_icmp .ge 44, 3) := by decide +kernel
theorem dX0_overlaps_13 : decode cX0_overlaps 13 = .ok (.iconst 0, 1) := by decide +kernel
theorem dX0_overlaps_14 : decode cX0_overlaps 14 = .ok (.istore 4, 2) := by decide +kernel
theorem dX0_overlaps_16 : decode cX0_overlaps 16 = .ok (.iload 4, 2) := by decide +kernel
theorem dX0_overlaps_18 : decode cX0_overlaps 18 = .ok (.aload_n 1, 1) := by decide +kernel
theorem dX0_overlaps_19 : decode cX0_overlaps 19 = .ok (.getfield 20, 3) := by decide +kernel
theorem dX0_overlaps_22 : decode cX0_overlaps 22 = .ok (.getfield 134, 3) := by decide +kernel
theorem dX0_overlaps_25 : decode cX0_overlaps 25 = .ok (.if_icmp .ge 23, 3) := by decide +kernel
theorem dX0_overlaps_28 : decode cX0_overlaps 28 = .ok (.aload_n 0, 1) := by decide +kernel
theorem dX0_overlaps_29 : decode cX0_overlaps 29 = .ok (.iload_n 3, 1) := by decide +kernel
theorem dX0_overlaps_30 : decode cX0_overlaps 30 = .ok (.aload_n 1, 1) := by decide +kernel
theorem dX0_overlaps_31 : decode cX0_overlaps 31 = .ok (.iload 4, 2) := by decide +kernel
theorem dX0_overlaps_33 : decode cX0_overlaps 33 = .ok (.iload_n 2, 1) := by decide +kernel
theorem dX0_overlaps_34 : decode cX0_overlaps 34 = .ok (.invokevirtual 137, 3) := by decide +kernel
theorem dX0_overlaps_37 : decode cX0_overlaps 37 = .ok (.ifCond .eq 5, 3) := by decide +kernel
theorem dX0_overlaps_40 : decode cX0_overlaps 40 = .ok (.iconst 1, 1) := by decide +kernel
theorem dX0_overlaps_41 : decode cX0_overlaps 41 = .ok (.ireturn, 1) := by decide +kernel
theorem dX0_overlaps_42 : decode cX0_overlaps 42 = .ok (.iinc 4 1, 3) := by decide +kernel
theorem dX0_overlaps_45 : decode cX0_overlaps 45 = .ok (.goto (-29), 3) := by decide +kernel
theorem dX0_overlaps_48 : decode cX0_overlaps 48 = .ok (.iinc 3 1, 3) := by decide +kernel
theorem dX0_overlaps_51 : decode cX0_overlaps 51 = .ok (.goto (-49), 3) := by decide +kernel
theorem dX0_overlaps_54 : decode cX0_overlaps 54 = .ok (.iconst 0, 1) := by decide +kernel
theorem dX0_overlaps_55 : decode cX0_overlaps 55 = .ok (.ireturn, 1) := by decide +kernel
set_option maxRecDepth 100000 in
theorem t_X0_overlaps_16 (G : MG) (hG : (g_l G).stackTraces = false) (d : Nat) (hd : 2 ≤ d)   (σ : MsSt) (k2 : Nat → Nat → Int32 → Int32 → Option (Int32)) (hk2 : ∀ (x1 : Nat) (x2 : Nat) (x3 : Int32) (x4 : Int32), ms_kd x1 = 1 → ms_kd x2 = 1 → TrO G mX0_overlaps d 0 0 0 0 (ms_ki σ) 2 [(0, .ref x1), (1, .ref x2), (2, .int x3), (3, .int x4)] [] σ (k2 x1 x2 x3 x4)) : ∀ (n : Nat) (l0 : Nat) (l1 : Nat) (l2 : Int32) (l3 : Int32) (l4 : Int32) (h0 : ms_kd l0 = 1) (h1 : ms_kd l1 = 1), TrO G mX0_overlaps d 0 0 0 0 (ms_ki σ) 16 [(0, .ref l0), (1, .ref l1), (2, .int l2), (3, .int l3), (4, .int l4)] [] σ (f_X0_overlaps_16 σ k2 n l0 l1 l2 l3 l4) := by
  intro n
  induction n with
  | zero => exact fun _ _ _ _ _ _ _ => tr_none
  | succ n ih =>
    intro l0 l1 l2 l3 l4 h0 h1
    show TrO G mX0_overlaps d 0 0 0 0 (ms_ki σ) 16 [(0, .ref l0), (1, .ref l1), (2, .int l2), (3, .int l3), (4, .int l4)] [] σ (if l4 < (ms_i σ (ms_rf l1 1) 1) then (f_X0_overlapsAt σ l0 l3 l1 l4 l2).bind fun v1 => if v1 = 0 then (f_X0_overlaps_16 σ k2 n) l0 l1 l2 l3 (l4 + 1) else some 1 else k2 l0 l1 l2 (l3 + 1))
    refine tr_iload (i := 4) dX0_overlaps_16 rfl ?_
    refine tr_aload_n (i := 1) dX0_overlaps_18 rfl ?_
    refine tr_getR 0 h1 fl_X0_20 (by decide +kernel) dX0_overlaps_19 ?_
    refine tr_getI 5 (rk_0_1 h1) fl_X0_134 (by decide +kernel) dX0_overlaps_22 ?_
    refine tr_icge (o := none) (tgt := 48) dX0_overlaps_25 (by decide) ?_ ?_
    · refine tr_iinc (k := 3) (v := (l3 + 1)) (lv' := [(0, .ref l0), (1, .ref l1), (2, .int l2), (3, .int (l3 + 1))]) [1, 2, 3, 0] dX0_overlaps_48 rfl rfl (by decide) rfl ?_
      refine tr_goto (tgt := 2) dX0_overlaps_51 (by decide) ?_
      exact hk2 l0 l1 l2 (l3 + 1) h0 h1
    · refine tr_aload_n (i := 0) dX0_overlaps_28 rfl ?_
      refine tr_iload_n (i := 3) dX0_overlaps_29 rfl ?_
      refine tr_aload_n (i := 1) dX0_overlaps_30 rfl ?_
      refine tr_iload (i := 4) dX0_overlaps_31 rfl ?_
      refine tr_iload_n (i := 2) dX0_overlaps_33 rfl ?_
      refine tr_c_i (ms_cV (rest := []) (al := [.int l3, .ref l1, .int l4, .int l2]) 0 (sp_X0_overlapsAt G hG (d - 1) (by omega) σ l0 l3 l1 l4 l2 h0 h1) h0 (by decide +kernel) kl_X0_137 fv_X0_overlapsAt dX0_overlaps_34 (show _ = some 4 by decide +kernel) (by omega) (Nat.le_of_ble_eq_true rfl) (by decide) (by decide)) (fun v1 => ?_)
      refine tr_ifeq (o := none) (tgt := 42) dX0_overlaps_37 (by decide) ?_ ?_
      · refine tr_iinc (k := 4) (v := (l4 + 1)) (lv' := [(0, .ref l0), (1, .ref l1), (2, .int l2), (3, .int l3), (4, .int (l4 + 1))]) [1, 2, 3, 4, 0] dX0_overlaps_42 rfl rfl (by decide) rfl ?_
        refine tr_goto (tgt := 16) dX0_overlaps_45 (by decide) ?_
        exact (fun y0 y1 y2 y3 y4 g0 g1 => ih y0 y1 y2 y3 y4 g0 g1) l0 l1 l2 l3 (l4 + 1) h0 h1
      · refine tr_iconst (v := 1) dX0_overlaps_40 (by decide +kernel) ?_
        exact tr_zret rfl (by decide +kernel) rfl (by decide) (by decide) dX0_overlaps_41
set_option maxRecDepth 100000 in
theorem t_X0_overlaps_2 (G : MG) (hG : (g_l G).stackTraces = false) (d : Nat) (hd : 2 ≤ d)   (σ : MsSt)  : ∀ (n : Nat) (l0 : Nat) (l1 : Nat) (l2 : Int32) (l3 : Int32) (h0 : ms_kd l0 = 1) (h1 : ms_kd l1 = 1), TrO G mX0_overlaps d 0 0 0 0 (ms_ki σ) 2 [(0, .ref l0), (1, .ref l1), (2, .int l2), (3, .int l3)] [] σ (f_X0_overlaps_2 σ n l0 l1 l2 l3) := by
  intro n
  induction n with
  | zero => exact fun _ _ _ _ _ _ => tr_none
  | succ n ih =>
    intro l0 l1 l2 l3 h0 h1
    show TrO G mX0_overlaps d 0 0 0 0 (ms_ki σ) 2 [(0, .ref l0), (1, .ref l1), (2, .int l2), (3, .int l3)] [] σ (if l3 < (ms_i σ (ms_rf l0 1) 1) then f_X0_overlaps_16 σ (f_X0_overlaps_2 σ n) ms_fuel l0 l1 l2 l3 0 else some 0)
    refine tr_iload_n (i := 3) dX0_overlaps_2 rfl ?_
    refine tr_aload_n (i := 0) dX0_overlaps_3 rfl ?_
    refine tr_getR 0 h0 fl_X0_20 (by decide +kernel) dX0_overlaps_4 ?_
    refine tr_getI 5 (rk_0_1 h0) fl_X0_134 (by decide +kernel) dX0_overlaps_7 ?_
    refine tr_icge (o := none) (tgt := 54) dX0_overlaps_10 (by decide) ?_ ?_
    · refine tr_iconst (v := 0) dX0_overlaps_54 (by decide +kernel) ?_
      exact tr_zret rfl (by decide +kernel) rfl (by decide) (by decide) dX0_overlaps_55
    · refine tr_iconst (v := 0) dX0_overlaps_13 (by decide +kernel) ?_
      refine tr_istore (lv' := [(0, .ref l0), (1, .ref l1), (2, .int l2), (3, .int l3), (4, .int 0)]) [1, 2, 3, 4, 0] dX0_overlaps_14 (by decide) rfl ?_
      exact t_X0_overlaps_16 G hG d hd σ (f_X0_overlaps_2 σ n) (fun y0 y1 y2 y3 g0 g1 => ih y0 y1 y2 y3 g0 g1) ms_fuel l0 l1 l2 l3 0 h0 h1
set_option maxRecDepth 100000 in
theorem sp_X0_overlaps (G : MG) (hG : (g_l G).stackTraces = false) (d : Nat) (hd : 2 ≤ d)   (σ : MsSt) (l0 : Nat) (l1 : Nat) (l2 : Int32) (h0 : ms_kd l0 = 1) (h1 : ms_kd l1 = 1) : MsSpec G mX0_overlaps d 0 0 [.ref l0, .ref l1, .int l2] σ (ms_ki σ) (f_X0_overlaps σ l0 l1 l2) := by
  refine ms_start (by decide +kernel) rfl rfl (Nat.le_of_ble_eq_true rfl) ?_
  show TrO G mX0_overlaps d 0 0 0 0 (ms_ki σ) 0 [(0, .ref l0), (1, .ref l1), (2, .int l2)] [] σ (f_X0_overlaps_2 σ ms_fuel l0 l1 l2 0)
  refine tr_iconst (v := 0) dX0_overlaps_0 (by decide +kernel) ?_
  refine tr_istore_n (lv' := [(0, .ref l0), (1, .ref l1), (2, .int l2), (3, .int 0)]) [1, 2, 3, 0] dX0_overlaps_1 (by decide) rfl ?_
  exact t_X0_overlaps_2 G hG d hd σ ms_fuel l0 l1 l2 0 h0 h1
