/-! X3: the bytecode does what the functions say (by program: wip/whole/gen) -/
theorem dX3_keep_0 : decode cX3_keep 0 = .ok (.iconst 0, 1) := by decide +kernel
theorem dX3_keep_1 : decode cX3_keep 1 = .ok (.istore_n 2, 1) := by decide +kernel
theorem dX3_keep_2 : decode cX3_keep 2 = .ok (.iload_n 2, 1) := by decide +kernel
theorem dX3_keep_3 : decode cX3_keep 3 = .ok (.aload_n 0, 1) := by decide +kernel
theorem dX3_keep_4 : decode cX3_keep 4 = .ok (.getfield 11, 3) := by decide +kernel
theorem dX3_keep_7 : decode cX3_keep 7 = .ok (.arraylength, 1) := by decide +kernel
theorem dX3_keep_8 : decode cX3_keep 8 = .ok (.if_icmp .ge 29, 3) := by decide +kernel
theorem dX3_keep_11 : decode cX3_keep 11 = .ok (.aload_n 0, 1) := by decide +kernel
theorem dX3_keep_12 : decode cX3_keep 12 = .ok (.getfield 11, 3) := by decide +kernel
theorem dX3_keep_15 : decode cX3_keep 15 = .ok (.iload_n 2, 1) := by decide +kernel
theorem dX3_keep_16 : decode cX3_keep 16 = .ok (.aaload, 1) := by decide +kernel
theorem dX3_keep_17 : decode cX3_keep 17 = .ok (.astore_n 3, 1) := by decide +kernel
theorem dX3_keep_18 : decode cX3_keep 18 = .ok (.aload_n 3, 1) := by decide +kernel
theorem dX3_keep_19 : decode cX3_keep 19 = .ok (.ifnull 12, 3) := by decide +kernel
theorem dX3_keep_22 : decode cX3_keep 22 = .ok (.aload_n 3, 1) := by decide +kernel
theorem dX3_keep_23 : decode cX3_keep 23 = .ok (.aload_n 1, 1) := by decide +kernel
theorem dX3_keep_24 : decode cX3_keep 24 = .ok (.iload_n 2, 1) := by decide +kernel
theorem dX3_keep_25 : decode cX3_keep 25 = .ok (.invokevirtual 31, 3) := by decide +kernel
theorem dX3_keep_28 : decode cX3_keep 28 = .ok (.invokevirtual 37, 3) := by decide +kernel
theorem dX3_keep_31 : decode cX3_keep 31 = .ok (.iinc 2 1, 3) := by decide +kernel
theorem dX3_keep_34 : decode cX3_keep 34 = .ok (.goto (-32), 3) := by decide +kernel
theorem dX3_keep_37 : decode cX3_keep 37 = .ok (.aload_n 0, 1) := by decide +kernel
theorem dX3_keep_38 : decode cX3_keep 38 = .ok (.getfield 20, 3) := by decide +kernel
theorem dX3_keep_41 : decode cX3_keep 41 = .ok (.invokevirtual 41, 3) := by decide +kernel
theorem dX3_keep_44 : decode cX3_keep 44 = .ok (.aload_n 0, 1) := by decide +kernel
theorem dX3_keep_45 : decode cX3_keep 45 = .ok (.getfield 24, 3) := by decide +kernel
theorem dX3_keep_48 : decode cX3_keep 48 = .ok (.invokevirtual 41, 3) := by decide +kernel
theorem dX3_keep_51 : decode cX3_keep 51 = .ok (.iconst 0, 1) := by decide +kernel
theorem dX3_keep_52 : decode cX3_keep 52 = .ok (.istore_n 2, 1) := by decide +kernel
theorem dX3_keep_53 : decode cX3_keep 53 = .ok (.iload_n 2, 1) := by decide +kernel
theorem dX3_keep_54 : decode cX3_keep 54 = .ok (.aload_n 1, 1) := by decide +kernel
theorem dX3_keep_55 : decode cX3_keep 55 = .ok (.getfield 44, 3) := by decide +kernel
theorem dX3_keep_58 : decode cX3_keep 58 = .ok (.if_icmp .ge 47, 3) := by decide +kernel
theorem dX3_keep_61 : decode cX3_keep 61 = .ok (.aload_n 0, 1) := by decide +kernel
theorem dX3_keep_62 : decode cX3_keep 62 = .ok (.getfield 20, 3) := by decide +kernel
theorem dX3_keep_65 : decode cX3_keep 65 = .ok (.aload_n 1, 1) := by decide +kernel
theorem dX3_keep_66 : decode cX3_keep 66 = .ok (.iload_n 2, 1) := by decide +kernel
theorem dX3_keep_67 : decode cX3_keep 67 = .ok (.invokevirtual 47, 3) := by decide +kernel
theorem dX3_keep_70 : decode cX3_keep 70 = .ok (.getfield 51, 3) := by decide +kernel
theorem dX3_keep_73 : decode cX3_keep 73 = .ok (.invokevirtual 56, 3) := by decide +kernel
theorem dX3_keep_76 : decode cX3_keep 76 = .ok (.aload_n 0, 1) := by decide +kernel
theorem dX3_keep_77 : decode cX3_keep 77 = .ok (.getfield 24, 3) := by decide +kernel
theorem dX3_keep_80 : decode cX3_keep 80 = .ok (.aload_n 1, 1) := by decide +kernel
theorem dX3_keep_81 : decode cX3_keep 81 = .ok (.iload_n 2, 1) := by decide +kernel
theorem dX3_keep_82 : decode cX3_keep 82 = .ok (.invokevirtual 47, 3) := by decide +kernel
theorem dX3_keep_85 : decode cX3_keep 85 = .ok (.getfield 59, 3) := by decide +kernel
theorem dX3_keep_88 : decode cX3_keep 88 = .ok (.ifCond .eq 7, 3) := by decide +kernel
theorem dX3_keep_91 : decode cX3_keep 91 = .ok (.iconst 1, 1) := by decide +kernel
theorem dX3_keep_92 : decode cX3_keep 92 = .ok (.goto 4, 3) := by decide +kernel
theorem dX3_keep_95 : decode cX3_keep 95 = .ok (.iconst 0, 1) := by decide +kernel
theorem dX3_keep_96 : decode cX3_keep 96 = .ok (.invokevirtual 56, 3) := by decide +kernel
theorem dX3_keep_99 : decode cX3_keep 99 = .ok (.iinc 2 1, 3) := by decide +kernel
theorem dX3_keep_102 : decode cX3_keep 102 = .ok (.goto (-49), 3) := by decide +kernel
theorem dX3_keep_105 : decode cX3_keep 105 = .ok (.aload_n 0, 1) := by decide +kernel
theorem dX3_keep_106 : decode cX3_keep 106 = .ok (.aload_n 1, 1) := by decide +kernel
theorem dX3_keep_107 : decode cX3_keep 107 = .ok (.getfield 63, 3) := by decide +kernel
theorem dX3_keep_110 : decode cX3_keep 110 = .ok (.putfield 27, 3) := by decide +kernel
theorem dX3_keep_113 : decode cX3_keep 113 = .ok (.return_, 1) := by decide +kernel
set_option maxRecDepth 100000 in
theorem t_X3_keep_53 (G : MG) (hG : (g_l G).stackTraces = false) (d : Nat) (hd : 3 ≤ d)    : ∀ (n : Nat) (σ : MsSt) (l0 : Nat) (l1 : Nat) (l2 : Int32) (h0 : ms_kd l0 = 4) (h1 : ms_kd l1 = 7), TrO G mX3_keep d 0 0 0 0 ms_wv 53 [(0, .ref l0), (1, .ref l1), (2, .int l2)] [] σ (f_X3_keep_53 n σ l0 l1 l2) := by
  intro n
  induction n with
  | zero => exact fun _ _ _ _ _ _ => tr_none
  | succ n ih =>
    intro σ l0 l1 l2 h0 h1
    show TrO G mX3_keep d 0 0 0 0 ms_wv 53 [(0, .ref l0), (1, .ref l1), (2, .int l2)] [] σ (if l2 < (ms_i σ l1 4) then (f_X6_told σ l1 l2).bind fun v4 => (f_X5_add σ (ms_rf l0 1) (ms_i σ v4 4)).bind fun s5 => (f_X6_told s5 l1 l2).bind fun v6 => if (ms_i s5 v6 13) = 0 then (f_X5_add s5 (ms_rf l0 2) 0).bind fun s7 => (f_X3_keep_53 n) s7 l0 l1 (l2 + 1) else (f_X5_add s5 (ms_rf l0 2) 1).bind fun s8 => (f_X3_keep_53 n) s8 l0 l1 (l2 + 1) else ms_nm (ms_si σ l0 3 (ms_i σ l1 6)) fun s3 => some s3)
    refine tr_iload_n (i := 2) dX3_keep_53 rfl ?_
    refine tr_aload_n (i := 1) dX3_keep_54 rfl ?_
    refine tr_getI 6 h1 fl_X3_44 (by decide +kernel) dX3_keep_55 ?_
    refine tr_icge (o := none) (tgt := 105) dX3_keep_58 (by decide) ?_ ?_
    · refine tr_aload_n (i := 0) dX3_keep_105 rfl ?_
      refine tr_aload_n (i := 1) dX3_keep_106 rfl ?_
      refine tr_getI 6 h1 fl_X3_63 (by decide +kernel) dX3_keep_107 ?_
      refine tr_putI 3 h0 fl_X3_27 (by decide +kernel) dX3_keep_110 ?_
      refine ms_ltS (fun s3 => ?_)
      exact tr_vret rfl rfl (by decide) (by decide) dX3_keep_113
    · refine tr_aload_n (i := 0) dX3_keep_61 rfl ?_
      refine tr_getR 3 h0 fl_X3_20 (by decide +kernel) dX3_keep_62 ?_
      refine tr_aload_n (i := 1) dX3_keep_65 rfl ?_
      refine tr_iload_n (i := 2) dX3_keep_66 rfl ?_
      refine tr_c_a (ms_cV (rest := [.ref (ms_rf l0 1)]) (al := [.int l2]) 6 (sp_X6_told G hG (d - 1) (by omega) σ l1 l2 h1) h1 (by decide +kernel) kl_X3_47 fv_X6_told dX3_keep_67 (show _ = some 1 by decide +kernel) (by omega) (Nat.le_of_ble_eq_true rfl) (by decide) (by decide)) (fun v4 e_v4 => ?_)
      refine tr_getI 7 (ra_X6_told h1 e_v4) fl_X3_51 (by decide +kernel) dX3_keep_70 ?_
      refine tr_c_wv (ms_cV (rest := []) (al := [.int (ms_i σ v4 4)]) 5 (sp_X5_add G hG (d - 1) (by omega) σ (ms_rf l0 1) (ms_i σ v4 4) (rk_3_1 h0)) (rk_3_1 h0) (by decide +kernel) kl_X3_56 fv_X5_add dX3_keep_73 (show _ = some 1 by decide +kernel) (by omega) (Nat.le_of_ble_eq_true rfl) (by decide) (by decide)) (fun s5 => ?_)
      refine tr_aload_n (i := 0) dX3_keep_76 rfl ?_
      refine tr_getR 3 h0 fl_X3_24 (by decide +kernel) dX3_keep_77 ?_
      refine tr_aload_n (i := 1) dX3_keep_80 rfl ?_
      refine tr_iload_n (i := 2) dX3_keep_81 rfl ?_
      refine tr_c_a (ms_cV (rest := [.ref (ms_rf l0 2)]) (al := [.int l2]) 6 (sp_X6_told G hG (d - 1) (by omega) s5 l1 l2 h1) h1 (by decide +kernel) kl_X3_47 fv_X6_told dX3_keep_82 (show _ = some 1 by decide +kernel) (by omega) (Nat.le_of_ble_eq_true rfl) (by decide) (by decide)) (fun v6 e_v6 => ?_)
      refine tr_getI 7 (ra_X6_told h1 e_v6) fl_X3_59 (by decide +kernel) dX3_keep_85 ?_
      refine tr_ifeq (o := none) (tgt := 95) dX3_keep_88 (by decide) ?_ ?_
      · refine tr_iconst (v := 0) dX3_keep_95 (by decide +kernel) ?_
        refine tr_c_wv (ms_cV (rest := []) (al := [.int 0]) 5 (sp_X5_add G hG (d - 1) (by omega) s5 (ms_rf l0 2) 0 (rk_3_2 h0)) (rk_3_2 h0) (by decide +kernel) kl_X3_56 fv_X5_add dX3_keep_96 (show _ = some 1 by decide +kernel) (by omega) (Nat.le_of_ble_eq_true rfl) (by decide) (by decide)) (fun s7 => ?_)
        refine tr_iinc (k := 2) (v := (l2 + 1)) (lv' := [(0, .ref l0), (1, .ref l1), (2, .int (l2 + 1))]) [1, 2, 0] dX3_keep_99 rfl rfl (by decide) rfl ?_
        refine tr_goto (tgt := 53) dX3_keep_102 (by decide) ?_
        exact (fun s y0 y1 y2 g0 g1 => ih s y0 y1 y2 g0 g1) s7 l0 l1 (l2 + 1) h0 h1
      · refine tr_iconst (v := 1) dX3_keep_91 (by decide +kernel) ?_
        refine tr_goto (tgt := 96) dX3_keep_92 (by decide) ?_
        refine tr_c_wv (ms_cV (rest := []) (al := [.int 1]) 5 (sp_X5_add G hG (d - 1) (by omega) s5 (ms_rf l0 2) 1 (rk_3_2 h0)) (rk_3_2 h0) (by decide +kernel) kl_X3_56 fv_X5_add dX3_keep_96 (show _ = some 1 by decide +kernel) (by omega) (Nat.le_of_ble_eq_true rfl) (by decide) (by decide)) (fun s8 => ?_)
        refine tr_iinc (k := 2) (v := (l2 + 1)) (lv' := [(0, .ref l0), (1, .ref l1), (2, .int (l2 + 1))]) [1, 2, 0] dX3_keep_99 rfl rfl (by decide) rfl ?_
        refine tr_goto (tgt := 53) dX3_keep_102 (by decide) ?_
        exact (fun s y0 y1 y2 g0 g1 => ih s y0 y1 y2 g0 g1) s8 l0 l1 (l2 + 1) h0 h1
set_option maxRecDepth 100000 in
theorem t_X3_keep_2 (G : MG) (hG : (g_l G).stackTraces = false) (d : Nat) (hd : 3 ≤ d)    : ∀ (n : Nat) (σ : MsSt) (l0 : Nat) (l1 : Nat) (l2 : Int32) (h0 : ms_kd l0 = 4) (h1 : ms_kd l1 = 7), TrO G mX3_keep d 0 0 0 0 ms_wv 2 [(0, .ref l0), (1, .ref l1), (2, .int l2)] [] σ (f_X3_keep_2 n σ l0 l1 l2) := by
  intro n
  induction n with
  | zero => exact fun _ _ _ _ _ _ => tr_none
  | succ n ih =>
    intro σ l0 l1 l2 h0 h1
    show TrO G mX3_keep d 0 0 0 0 ms_wv 2 [(0, .ref l0), (1, .ref l1), (2, .int l2)] [] σ (if l2 < (Int32.ofNat (ms_ln (ms_rf l0 0))) then (ms_ala (ms_rf l0 0) l2).bind fun v9 => (f_X6_lineAt σ l1 l2).bind fun v10 => (f_X5_takeOver σ v9 v10).bind fun s11 => (f_X3_keep_2 n) s11 l0 l1 (l2 + 1) else (f_X5_clear σ (ms_rf l0 1)).bind fun s1 => (f_X5_clear s1 (ms_rf l0 2)).bind fun s2 => f_X3_keep_53 ms_fuel s2 l0 l1 0)
    refine tr_iload_n (i := 2) dX3_keep_2 rfl ?_
    refine tr_aload_n (i := 0) dX3_keep_3 rfl ?_
    refine tr_getR 3 h0 fl_X3_11 (by decide +kernel) dX3_keep_4 ?_
    refine tr_len 5 (rk_3_0 h0) (by decide) dX3_keep_7 ?_
    refine tr_icge (o := none) (tgt := 37) dX3_keep_8 (by decide) ?_ ?_
    · refine tr_aload_n (i := 0) dX3_keep_37 rfl ?_
      refine tr_getR 3 h0 fl_X3_20 (by decide +kernel) dX3_keep_38 ?_
      refine tr_c_wv (ms_cV (rest := []) (al := []) 5 (sp_X5_clear G hG (d - 1) (by omega) σ (ms_rf l0 1) (rk_3_1 h0)) (rk_3_1 h0) (by decide +kernel) kl_X3_41 fv_X5_clear dX3_keep_41 (show _ = some 0 by decide +kernel) (by omega) (Nat.le_of_ble_eq_true rfl) (by decide) (by decide)) (fun s1 => ?_)
      refine tr_aload_n (i := 0) dX3_keep_44 rfl ?_
      refine tr_getR 3 h0 fl_X3_24 (by decide +kernel) dX3_keep_45 ?_
      refine tr_c_wv (ms_cV (rest := []) (al := []) 5 (sp_X5_clear G hG (d - 1) (by omega) s1 (ms_rf l0 2) (rk_3_2 h0)) (rk_3_2 h0) (by decide +kernel) kl_X3_41 fv_X5_clear dX3_keep_48 (show _ = some 0 by decide +kernel) (by omega) (Nat.le_of_ble_eq_true rfl) (by decide) (by decide)) (fun s2 => ?_)
      refine tr_iconst (v := 0) dX3_keep_51 (by decide +kernel) ?_
      refine tr_istore_n (lv' := [(0, .ref l0), (1, .ref l1), (2, .int 0)]) [1, 2, 0] dX3_keep_52 (by decide) rfl ?_
      exact t_X3_keep_53 G hG d hd ms_fuel s2 l0 l1 0 h0 h1
    · refine tr_aload_n (i := 0) dX3_keep_11 rfl ?_
      refine tr_getR 3 h0 fl_X3_11 (by decide +kernel) dX3_keep_12 ?_
      refine tr_iload_n (i := 2) dX3_keep_15 rfl ?_
      refine tr_ala 5 (rk_3_0 h0) (by decide) (by decide) dX3_keep_16 (fun v9 e_v9 => ?_)
      refine tr_astore_n (lv' := [(0, .ref l0), (1, .ref l1), (2, .int l2), (3, .ref v9)]) [1, 2, 3, 0] dX3_keep_17 (by decide) rfl ?_
      refine tr_aload_n (i := 3) dX3_keep_18 rfl ?_
      refine tr_ifnull dX3_keep_19 ?_
      refine tr_aload_n (i := 3) dX3_keep_22 rfl ?_
      refine tr_aload_n (i := 1) dX3_keep_23 rfl ?_
      refine tr_iload_n (i := 2) dX3_keep_24 rfl ?_
      refine tr_c_a (ms_cV (rest := [.ref v9]) (al := [.int l2]) 6 (sp_X6_lineAt G hG (d - 1) (by omega) σ l1 l2 h1) h1 (by decide +kernel) kl_X3_31 fv_X6_lineAt dX3_keep_25 (show _ = some 1 by decide +kernel) (by omega) (Nat.le_of_ble_eq_true rfl) (by decide) (by decide)) (fun v10 e_v10 => ?_)
      refine tr_c_wv (ms_cV (rest := []) (al := [.ref v10]) 5 (sp_X5_takeOver G hG (d - 1) (by omega) σ v9 v10 (re_25 (rk_3_0 h0) e_v9) (ra_X6_lineAt h1 e_v10)) (re_25 (rk_3_0 h0) e_v9) (by decide +kernel) kl_X3_37 fv_X5_takeOver dX3_keep_28 (show _ = some 1 by decide +kernel) (by omega) (Nat.le_of_ble_eq_true rfl) (by decide) (by decide)) (fun s11 => ?_)
      refine tr_iinc (k := 2) (v := (l2 + 1)) (lv' := [(0, .ref l0), (1, .ref l1), (2, .int (l2 + 1))]) [1, 2, 0] dX3_keep_31 rfl rfl (by decide) rfl ?_
      refine tr_goto (tgt := 2) dX3_keep_34 (by decide) ?_
      exact (fun s y0 y1 y2 g0 g1 => ih s y0 y1 y2 g0 g1) s11 l0 l1 (l2 + 1) h0 h1
set_option maxRecDepth 100000 in
theorem sp_X3_keep (G : MG) (hG : (g_l G).stackTraces = false) (d : Nat) (hd : 3 ≤ d)   (σ : MsSt) (l0 : Nat) (l1 : Nat) (h0 : ms_kd l0 = 4) (h1 : ms_kd l1 = 7) : MsSpec G mX3_keep d 0 0 [.ref l0, .ref l1] σ ms_wv (f_X3_keep σ l0 l1) := by
  refine ms_start (by decide +kernel) rfl rfl (Nat.le_of_ble_eq_true rfl) ?_
  show TrO G mX3_keep d 0 0 0 0 ms_wv 0 [(0, .ref l0), (1, .ref l1)] [] σ (f_X3_keep_2 ms_fuel σ l0 l1 0)
  refine tr_iconst (v := 0) dX3_keep_0 (by decide +kernel) ?_
  refine tr_istore_n (lv' := [(0, .ref l0), (1, .ref l1), (2, .int 0)]) [1, 2, 0] dX3_keep_1 (by decide) rfl ?_
  exact t_X3_keep_2 G hG d hd ms_fuel σ l0 l1 0 h0 h1
theorem dX3_giveBack_0 : decode cX3_giveBack 0 = .ok (.iconst 0, 1) := by decide +kernel
theorem dX3_giveBack_1 : decode cX3_giveBack 1 = .ok (.istore_n 2, 1) := by decide +kernel
theorem dX3_giveBack_2 : decode cX3_giveBack 2 = .ok (.iload_n 2, 1) := by decide +kernel
theorem dX3_giveBack_3 : decode cX3_giveBack 3 = .ok (.aload_n 0, 1) := by decide +kernel
theorem dX3_giveBack_4 : decode cX3_giveBack 4 = .ok (.getfield 11, 3) := by decide +kernel
theorem dX3_giveBack_7 : decode cX3_giveBack 7 = .ok (.arraylength, 1) := by decide +kernel
theorem dX3_giveBack_8 : decode cX3_giveBack 8 = .ok (.if_icmp .ge 29, 3) := by decide +kernel
theorem dX3_giveBack_11 : decode cX3_giveBack 11 = .ok (.aload_n 0, 1) := by decide +kernel
theorem dX3_giveBack_12 : decode cX3_giveBack 12 = .ok (.getfield 11, 3) := by decide +kernel
theorem dX3_giveBack_15 : decode cX3_giveBack 15 = .ok (.iload_n 2, 1) := by decide +kernel
theorem dX3_giveBack_16 : decode cX3_giveBack 16 = .ok (.aaload, 1) := by decide +kernel
theorem dX3_giveBack_17 : decode cX3_giveBack 17 = .ok (.astore_n 3, 1) := by decide +kernel
theorem dX3_giveBack_18 : decode cX3_giveBack 18 = .ok (.aload_n 3, 1) := by decide +kernel
theorem dX3_giveBack_19 : decode cX3_giveBack 19 = .ok (.ifnull 12, 3) := by decide +kernel
theorem dX3_giveBack_22 : decode cX3_giveBack 22 = .ok (.aload_n 1, 1) := by decide +kernel
theorem dX3_giveBack_23 : decode cX3_giveBack 23 = .ok (.iload_n 2, 1) := by decide +kernel
theorem dX3_giveBack_24 : decode cX3_giveBack 24 = .ok (.invokevirtual 31, 3) := by decide +kernel
theorem dX3_giveBack_27 : decode cX3_giveBack 27 = .ok (.aload_n 3, 1) := by decide +kernel
theorem dX3_giveBack_28 : decode cX3_giveBack 28 = .ok (.invokevirtual 37, 3) := by decide +kernel
theorem dX3_giveBack_31 : decode cX3_giveBack 31 = .ok (.iinc 2 1, 3) := by decide +kernel
theorem dX3_giveBack_34 : decode cX3_giveBack 34 = .ok (.goto (-32), 3) := by decide +kernel
theorem dX3_giveBack_37 : decode cX3_giveBack 37 = .ok (.iconst 0, 1) := by decide +kernel
theorem dX3_giveBack_38 : decode cX3_giveBack 38 = .ok (.istore_n 2, 1) := by decide +kernel
theorem dX3_giveBack_39 : decode cX3_giveBack 39 = .ok (.iload_n 2, 1) := by decide +kernel
theorem dX3_giveBack_40 : decode cX3_giveBack 40 = .ok (.aload_n 1, 1) := by decide +kernel
theorem dX3_giveBack_41 : decode cX3_giveBack 41 = .ok (.getfield 44, 3) := by decide +kernel
theorem dX3_giveBack_44 : decode cX3_giveBack 44 = .ok (.if_icmp .ge 50, 3) := by decide +kernel
theorem dX3_giveBack_47 : decode cX3_giveBack 47 = .ok (.aload_n 1, 1) := by decide +kernel
theorem dX3_giveBack_48 : decode cX3_giveBack 48 = .ok (.iload_n 2, 1) := by decide +kernel
theorem dX3_giveBack_49 : decode cX3_giveBack 49 = .ok (.invokevirtual 47, 3) := by decide +kernel
theorem dX3_giveBack_52 : decode cX3_giveBack 52 = .ok (.aload_n 0, 1) := by decide +kernel
theorem dX3_giveBack_53 : decode cX3_giveBack 53 = .ok (.getfield 20, 3) := by decide +kernel
theorem dX3_giveBack_56 : decode cX3_giveBack 56 = .ok (.iload_n 2, 1) := by decide +kernel
theorem dX3_giveBack_57 : decode cX3_giveBack 57 = .ok (.invokevirtual 64, 3) := by decide +kernel
theorem dX3_giveBack_60 : decode cX3_giveBack 60 = .ok (.putfield 51, 3) := by decide +kernel
theorem dX3_giveBack_63 : decode cX3_giveBack 63 = .ok (.aload_n 1, 1) := by decide +kernel
theorem dX3_giveBack_64 : decode cX3_giveBack 64 = .ok (.iload_n 2, 1) := by decide +kernel
theorem dX3_giveBack_65 : decode cX3_giveBack 65 = .ok (.invokevirtual 47, 3) := by decide +kernel
theorem dX3_giveBack_68 : decode cX3_giveBack 68 = .ok (.aload_n 0, 1) := by decide +kernel
theorem dX3_giveBack_69 : decode cX3_giveBack 69 = .ok (.getfield 24, 3) := by decide +kernel
theorem dX3_giveBack_72 : decode cX3_giveBack 72 = .ok (.iload_n 2, 1) := by decide +kernel
theorem dX3_giveBack_73 : decode cX3_giveBack 73 = .ok (.invokevirtual 64, 3) := by decide +kernel
theorem dX3_giveBack_76 : decode cX3_giveBack 76 = .ok (.iconst 1, 1) := by decide +kernel
theorem dX3_giveBack_77 : decode cX3_giveBack 77 = .ok (.if_icmp .ne 7, 3) := by decide +kernel
theorem dX3_giveBack_80 : decode cX3_giveBack 80 = .ok (.iconst 1, 1) := by decide +kernel
theorem dX3_giveBack_81 : decode cX3_giveBack 81 = .ok (.goto 4, 3) := by decide +kernel
theorem dX3_giveBack_84 : decode cX3_giveBack 84 = .ok (.iconst 0, 1) := by decide +kernel
theorem dX3_giveBack_85 : decode cX3_giveBack 85 = .ok (.putfield 59, 3) := by decide +kernel
theorem dX3_giveBack_88 : decode cX3_giveBack 88 = .ok (.iinc 2 1, 3) := by decide +kernel
theorem dX3_giveBack_91 : decode cX3_giveBack 91 = .ok (.goto (-52), 3) := by decide +kernel
theorem dX3_giveBack_94 : decode cX3_giveBack 94 = .ok (.aload_n 1, 1) := by decide +kernel
theorem dX3_giveBack_95 : decode cX3_giveBack 95 = .ok (.aload_n 0, 1) := by decide +kernel
theorem dX3_giveBack_96 : decode cX3_giveBack 96 = .ok (.getfield 27, 3) := by decide +kernel
theorem dX3_giveBack_99 : decode cX3_giveBack 99 = .ok (.putfield 63, 3) := by decide +kernel
theorem dX3_giveBack_102 : decode cX3_giveBack 102 = .ok (.return_, 1) := by decide +kernel
set_option maxRecDepth 100000 in
theorem t_X3_giveBack_39 (G : MG) (hG : (g_l G).stackTraces = false) (d : Nat) (hd : 3 ≤ d)    : ∀ (n : Nat) (σ : MsSt) (l0 : Nat) (l1 : Nat) (l2 : Int32) (h0 : ms_kd l0 = 4) (h1 : ms_kd l1 = 7), TrO G mX3_giveBack d 0 0 0 0 ms_wv 39 [(0, .ref l0), (1, .ref l1), (2, .int l2)] [] σ (f_X3_giveBack_39 n σ l0 l1 l2) := by
  intro n
  induction n with
  | zero => exact fun _ _ _ _ _ _ => tr_none
  | succ n ih =>
    intro σ l0 l1 l2 h0 h1
    show TrO G mX3_giveBack d 0 0 0 0 ms_wv 39 [(0, .ref l0), (1, .ref l1), (2, .int l2)] [] σ (if l2 < (ms_i σ l1 4) then (f_X6_told σ l1 l2).bind fun v2 => (f_X5_get σ (ms_rf l0 1) l2).bind fun v3 => ms_nm (ms_si σ v2 4 v3) fun s4 => (f_X6_told s4 l1 l2).bind fun v5 => (f_X5_get s4 (ms_rf l0 2) l2).bind fun v6 => if v6 = 1 then ms_nm (ms_si s4 v5 13 1) fun s8 => (f_X3_giveBack_39 n) s8 l0 l1 (l2 + 1) else ms_nm (ms_si s4 v5 13 0) fun s7 => (f_X3_giveBack_39 n) s7 l0 l1 (l2 + 1) else ms_nm (ms_si σ l1 6 (ms_i σ l0 3)) fun s1 => some s1)
    refine tr_iload_n (i := 2) dX3_giveBack_39 rfl ?_
    refine tr_aload_n (i := 1) dX3_giveBack_40 rfl ?_
    refine tr_getI 6 h1 fl_X3_44 (by decide +kernel) dX3_giveBack_41 ?_
    refine tr_icge (o := none) (tgt := 94) dX3_giveBack_44 (by decide) ?_ ?_
    · refine tr_aload_n (i := 1) dX3_giveBack_94 rfl ?_
      refine tr_aload_n (i := 0) dX3_giveBack_95 rfl ?_
      refine tr_getI 3 h0 fl_X3_27 (by decide +kernel) dX3_giveBack_96 ?_
      refine tr_putI 6 h1 fl_X3_63 (by decide +kernel) dX3_giveBack_99 ?_
      refine ms_ltS (fun s1 => ?_)
      exact tr_vret rfl rfl (by decide) (by decide) dX3_giveBack_102
    · refine tr_aload_n (i := 1) dX3_giveBack_47 rfl ?_
      refine tr_iload_n (i := 2) dX3_giveBack_48 rfl ?_
      refine tr_c_a (ms_cV (rest := []) (al := [.int l2]) 6 (sp_X6_told G hG (d - 1) (by omega) σ l1 l2 h1) h1 (by decide +kernel) kl_X3_47 fv_X6_told dX3_giveBack_49 (show _ = some 1 by decide +kernel) (by omega) (Nat.le_of_ble_eq_true rfl) (by decide) (by decide)) (fun v2 e_v2 => ?_)
      refine tr_aload_n (i := 0) dX3_giveBack_52 rfl ?_
      refine tr_getR 3 h0 fl_X3_20 (by decide +kernel) dX3_giveBack_53 ?_
      refine tr_iload_n (i := 2) dX3_giveBack_56 rfl ?_
      refine tr_c_i (ms_cV (rest := [.ref v2]) (al := [.int l2]) 5 (sp_X5_get G hG (d - 1) (by omega) σ (ms_rf l0 1) l2 (rk_3_1 h0)) (rk_3_1 h0) (by decide +kernel) kl_X3_64 fv_X5_get dX3_giveBack_57 (show _ = some 1 by decide +kernel) (by omega) (Nat.le_of_ble_eq_true rfl) (by decide) (by decide)) (fun v3 => ?_)
      refine tr_putI 7 (ra_X6_told h1 e_v2) fl_X3_51 (by decide +kernel) dX3_giveBack_60 ?_
      refine ms_ltS (fun s4 => ?_)
      refine tr_aload_n (i := 1) dX3_giveBack_63 rfl ?_
      refine tr_iload_n (i := 2) dX3_giveBack_64 rfl ?_
      refine tr_c_a (ms_cV (rest := []) (al := [.int l2]) 6 (sp_X6_told G hG (d - 1) (by omega) s4 l1 l2 h1) h1 (by decide +kernel) kl_X3_47 fv_X6_told dX3_giveBack_65 (show _ = some 1 by decide +kernel) (by omega) (Nat.le_of_ble_eq_true rfl) (by decide) (by decide)) (fun v5 e_v5 => ?_)
      refine tr_aload_n (i := 0) dX3_giveBack_68 rfl ?_
      refine tr_getR 3 h0 fl_X3_24 (by decide +kernel) dX3_giveBack_69 ?_
      refine tr_iload_n (i := 2) dX3_giveBack_72 rfl ?_
      refine tr_c_i (ms_cV (rest := [.ref v5]) (al := [.int l2]) 5 (sp_X5_get G hG (d - 1) (by omega) s4 (ms_rf l0 2) l2 (rk_3_2 h0)) (rk_3_2 h0) (by decide +kernel) kl_X3_64 fv_X5_get dX3_giveBack_73 (show _ = some 1 by decide +kernel) (by omega) (Nat.le_of_ble_eq_true rfl) (by decide) (by decide)) (fun v6 => ?_)
      refine tr_iconst (v := 1) dX3_giveBack_76 (by decide +kernel) ?_
      refine tr_icne (o := none) (tgt := 84) dX3_giveBack_77 (by decide) ?_ ?_
      · refine tr_iconst (v := 0) dX3_giveBack_84 (by decide +kernel) ?_
        refine tr_putB 7 (ra_X6_told h1 e_v5) fl_X3_59 (by decide +kernel) (by decide) dX3_giveBack_85 ?_
        refine ms_ltS (fun s7 => ?_)
        refine tr_iinc (k := 2) (v := (l2 + 1)) (lv' := [(0, .ref l0), (1, .ref l1), (2, .int (l2 + 1))]) [1, 2, 0] dX3_giveBack_88 rfl rfl (by decide) rfl ?_
        refine tr_goto (tgt := 39) dX3_giveBack_91 (by decide) ?_
        exact (fun s y0 y1 y2 g0 g1 => ih s y0 y1 y2 g0 g1) s7 l0 l1 (l2 + 1) h0 h1
      · refine tr_iconst (v := 1) dX3_giveBack_80 (by decide +kernel) ?_
        refine tr_goto (tgt := 85) dX3_giveBack_81 (by decide) ?_
        refine tr_putB 7 (ra_X6_told h1 e_v5) fl_X3_59 (by decide +kernel) (by decide) dX3_giveBack_85 ?_
        refine ms_ltS (fun s8 => ?_)
        refine tr_iinc (k := 2) (v := (l2 + 1)) (lv' := [(0, .ref l0), (1, .ref l1), (2, .int (l2 + 1))]) [1, 2, 0] dX3_giveBack_88 rfl rfl (by decide) rfl ?_
        refine tr_goto (tgt := 39) dX3_giveBack_91 (by decide) ?_
        exact (fun s y0 y1 y2 g0 g1 => ih s y0 y1 y2 g0 g1) s8 l0 l1 (l2 + 1) h0 h1
set_option maxRecDepth 100000 in
theorem t_X3_giveBack_2 (G : MG) (hG : (g_l G).stackTraces = false) (d : Nat) (hd : 3 ≤ d)    : ∀ (n : Nat) (σ : MsSt) (l0 : Nat) (l1 : Nat) (l2 : Int32) (h0 : ms_kd l0 = 4) (h1 : ms_kd l1 = 7), TrO G mX3_giveBack d 0 0 0 0 ms_wv 2 [(0, .ref l0), (1, .ref l1), (2, .int l2)] [] σ (f_X3_giveBack_2 n σ l0 l1 l2) := by
  intro n
  induction n with
  | zero => exact fun _ _ _ _ _ _ => tr_none
  | succ n ih =>
    intro σ l0 l1 l2 h0 h1
    show TrO G mX3_giveBack d 0 0 0 0 ms_wv 2 [(0, .ref l0), (1, .ref l1), (2, .int l2)] [] σ (if l2 < (Int32.ofNat (ms_ln (ms_rf l0 0))) then (ms_ala (ms_rf l0 0) l2).bind fun v9 => (f_X6_lineAt σ l1 l2).bind fun v10 => (f_X5_takeOver σ v10 v9).bind fun s11 => (f_X3_giveBack_2 n) s11 l0 l1 (l2 + 1) else f_X3_giveBack_39 ms_fuel σ l0 l1 0)
    refine tr_iload_n (i := 2) dX3_giveBack_2 rfl ?_
    refine tr_aload_n (i := 0) dX3_giveBack_3 rfl ?_
    refine tr_getR 3 h0 fl_X3_11 (by decide +kernel) dX3_giveBack_4 ?_
    refine tr_len 5 (rk_3_0 h0) (by decide) dX3_giveBack_7 ?_
    refine tr_icge (o := none) (tgt := 37) dX3_giveBack_8 (by decide) ?_ ?_
    · refine tr_iconst (v := 0) dX3_giveBack_37 (by decide +kernel) ?_
      refine tr_istore_n (lv' := [(0, .ref l0), (1, .ref l1), (2, .int 0)]) [1, 2, 0] dX3_giveBack_38 (by decide) rfl ?_
      exact t_X3_giveBack_39 G hG d hd ms_fuel σ l0 l1 0 h0 h1
    · refine tr_aload_n (i := 0) dX3_giveBack_11 rfl ?_
      refine tr_getR 3 h0 fl_X3_11 (by decide +kernel) dX3_giveBack_12 ?_
      refine tr_iload_n (i := 2) dX3_giveBack_15 rfl ?_
      refine tr_ala 5 (rk_3_0 h0) (by decide) (by decide) dX3_giveBack_16 (fun v9 e_v9 => ?_)
      refine tr_astore_n (lv' := [(0, .ref l0), (1, .ref l1), (2, .int l2), (3, .ref v9)]) [1, 2, 3, 0] dX3_giveBack_17 (by decide) rfl ?_
      refine tr_aload_n (i := 3) dX3_giveBack_18 rfl ?_
      refine tr_ifnull dX3_giveBack_19 ?_
      refine tr_aload_n (i := 1) dX3_giveBack_22 rfl ?_
      refine tr_iload_n (i := 2) dX3_giveBack_23 rfl ?_
      refine tr_c_a (ms_cV (rest := []) (al := [.int l2]) 6 (sp_X6_lineAt G hG (d - 1) (by omega) σ l1 l2 h1) h1 (by decide +kernel) kl_X3_31 fv_X6_lineAt dX3_giveBack_24 (show _ = some 1 by decide +kernel) (by omega) (Nat.le_of_ble_eq_true rfl) (by decide) (by decide)) (fun v10 e_v10 => ?_)
      refine tr_aload_n (i := 3) dX3_giveBack_27 rfl ?_
      refine tr_c_wv (ms_cV (rest := []) (al := [.ref v9]) 5 (sp_X5_takeOver G hG (d - 1) (by omega) σ v10 v9 (ra_X6_lineAt h1 e_v10) (re_25 (rk_3_0 h0) e_v9)) (ra_X6_lineAt h1 e_v10) (by decide +kernel) kl_X3_37 fv_X5_takeOver dX3_giveBack_28 (show _ = some 1 by decide +kernel) (by omega) (Nat.le_of_ble_eq_true rfl) (by decide) (by decide)) (fun s11 => ?_)
      refine tr_iinc (k := 2) (v := (l2 + 1)) (lv' := [(0, .ref l0), (1, .ref l1), (2, .int (l2 + 1))]) [1, 2, 0] dX3_giveBack_31 rfl rfl (by decide) rfl ?_
      refine tr_goto (tgt := 2) dX3_giveBack_34 (by decide) ?_
      exact (fun s y0 y1 y2 g0 g1 => ih s y0 y1 y2 g0 g1) s11 l0 l1 (l2 + 1) h0 h1
set_option maxRecDepth 100000 in
theorem sp_X3_giveBack (G : MG) (hG : (g_l G).stackTraces = false) (d : Nat) (hd : 3 ≤ d)   (σ : MsSt) (l0 : Nat) (l1 : Nat) (h0 : ms_kd l0 = 4) (h1 : ms_kd l1 = 7) : MsSpec G mX3_giveBack d 0 0 [.ref l0, .ref l1] σ ms_wv (f_X3_giveBack σ l0 l1) := by
  refine ms_start (by decide +kernel) rfl rfl (Nat.le_of_ble_eq_true rfl) ?_
  show TrO G mX3_giveBack d 0 0 0 0 ms_wv 0 [(0, .ref l0), (1, .ref l1)] [] σ (f_X3_giveBack_2 ms_fuel σ l0 l1 0)
  refine tr_iconst (v := 0) dX3_giveBack_0 (by decide +kernel) ?_
  refine tr_istore_n (lv' := [(0, .ref l0), (1, .ref l1), (2, .int 0)]) [1, 2, 0] dX3_giveBack_1 (by decide) rfl ?_
  exact t_X3_giveBack_2 G hG d hd ms_fuel σ l0 l1 0 h0 h1
