/-! X1: the bytecode does what the functions say (by program: wip/whole/gen) -/
theorem dX1_firstMark_0 : decode cX1_firstMark 0 = .ok (.aload_n 0, 1) := by decide +kernel
theorem dX1_firstMark_1 : decode cX1_firstMark 1 = .ok (.getfield 33, 3) := by decide +kernel
theorem dX1_firstMark_4 : decode cX1_firstMark 4 = .ok (.iload_n 1, 1) := by decide +kernel
theorem dX1_firstMark_5 : decode cX1_firstMark 5 = .ok (.invokevirtual 66, 3) := by decide +kernel
theorem dX1_firstMark_8 : decode cX1_firstMark 8 = .ok (.iconst (-1), 1) := by decide +kernel
theorem dX1_firstMark_9 : decode cX1_firstMark 9 = .ok (.if_icmp .ne 14, 3) := by decide +kernel
theorem dX1_firstMark_12 : decode cX1_firstMark 12 = .ok (.aload_n 0, 1) := by decide +kernel
theorem dX1_firstMark_13 : decode cX1_firstMark 13 = .ok (.getfield 30, 3) := by decide +kernel
theorem dX1_firstMark_16 : decode cX1_firstMark 16 = .ok (.iload_n 1, 1) := by decide +kernel
theorem dX1_firstMark_17 : decode cX1_firstMark 17 = .ok (.invokevirtual 66, 3) := by decide +kernel
theorem dX1_firstMark_20 : decode cX1_firstMark 20 = .ok (.goto 13, 3) := by decide +kernel
theorem dX1_firstMark_23 : decode cX1_firstMark 23 = .ok (.aload_n 0, 1) := by decide +kernel
theorem dX1_firstMark_24 : decode cX1_firstMark 24 = .ok (.getfield 30, 3) := by decide +kernel
theorem dX1_firstMark_27 : decode cX1_firstMark 27 = .ok (.iload_n 1, 1) := by decide +kernel
theorem dX1_firstMark_28 : decode cX1_firstMark 28 = .ok (.invokevirtual 66, 3) := by decide +kernel
theorem dX1_firstMark_31 : decode cX1_firstMark 31 = .ok (.iconst 1, 1) := by decide +kernel
theorem dX1_firstMark_32 : decode cX1_firstMark 32 = .ok (.iadd, 1) := by decide +kernel
theorem dX1_firstMark_33 : decode cX1_firstMark 33 = .ok (.ireturn, 1) := by decide +kernel
set_option maxRecDepth 100000 in
theorem sp_X1_firstMark (G : MG) (hG : (g_l G).stackTraces = false) (d : Nat) (hd : 1 ≤ d)   (σ : MsSt) (l0 : Nat) (l1 : Int32) (h0 : ms_kd l0 = 2) : MsSpec G mX1_firstMark d 0 0 [.ref l0, .int l1] σ (ms_ki σ) (f_X1_firstMark σ l0 l1) := by
  refine ms_start (by decide +kernel) rfl rfl (Nat.le_of_ble_eq_true rfl) ?_
  show TrO G mX1_firstMark d 0 0 0 0 (ms_ki σ) 0 [(0, .ref l0), (1, .int l1)] [] σ ((f_X5_get σ (ms_rf l0 5) l1).bind fun v1 => if v1 = (-1) then (f_X5_get σ (ms_rf l0 4) l1).bind fun v3 => some v3 else (f_X5_get σ (ms_rf l0 4) l1).bind fun v2 => some (v2 + 1))
  refine tr_aload_n (i := 0) dX1_firstMark_0 rfl ?_
  refine tr_getR 1 h0 fl_X1_33 (by decide +kernel) dX1_firstMark_1 ?_
  refine tr_iload_n (i := 1) dX1_firstMark_4 rfl ?_
  refine tr_c_i (ms_cV (rest := []) (al := [.int l1]) 5 (sp_X5_get G hG (d - 1) (by omega) σ (ms_rf l0 5) l1 (rk_1_5 h0)) (rk_1_5 h0) (by decide +kernel) kl_X1_66 fv_X5_get dX1_firstMark_5 (show _ = some 1 by decide +kernel) (by omega) (Nat.le_of_ble_eq_true rfl) (by decide) (by decide)) (fun v1 => ?_)
  refine tr_iconst (v := (-1)) dX1_firstMark_8 (by decide +kernel) ?_
  refine tr_icne (o := none) (tgt := 23) dX1_firstMark_9 (by decide) ?_ ?_
  · refine tr_aload_n (i := 0) dX1_firstMark_23 rfl ?_
    refine tr_getR 1 h0 fl_X1_30 (by decide +kernel) dX1_firstMark_24 ?_
    refine tr_iload_n (i := 1) dX1_firstMark_27 rfl ?_
    refine tr_c_i (ms_cV (rest := []) (al := [.int l1]) 5 (sp_X5_get G hG (d - 1) (by omega) σ (ms_rf l0 4) l1 (rk_1_4 h0)) (rk_1_4 h0) (by decide +kernel) kl_X1_66 fv_X5_get dX1_firstMark_28 (show _ = some 1 by decide +kernel) (by omega) (Nat.le_of_ble_eq_true rfl) (by decide) (by decide)) (fun v2 => ?_)
    refine tr_iconst (v := 1) dX1_firstMark_31 (by decide +kernel) ?_
    refine tr_iadd dX1_firstMark_32 ?_
    exact tr_iret rfl rfl (by decide) (by decide) dX1_firstMark_33
  · refine tr_aload_n (i := 0) dX1_firstMark_12 rfl ?_
    refine tr_getR 1 h0 fl_X1_30 (by decide +kernel) dX1_firstMark_13 ?_
    refine tr_iload_n (i := 1) dX1_firstMark_16 rfl ?_
    refine tr_c_i (ms_cV (rest := []) (al := [.int l1]) 5 (sp_X5_get G hG (d - 1) (by omega) σ (ms_rf l0 4) l1 (rk_1_4 h0)) (rk_1_4 h0) (by decide +kernel) kl_X1_66 fv_X5_get dX1_firstMark_17 (show _ = some 1 by decide +kernel) (by omega) (Nat.le_of_ble_eq_true rfl) (by decide) (by decide)) (fun v3 => ?_)
    refine tr_goto (tgt := 33) dX1_firstMark_20 (by decide) ?_
    exact tr_iret rfl rfl (by decide) (by decide) dX1_firstMark_33
theorem dX1_endOf_0 : decode cX1_endOf 0 = .ok (.iload_n 1, 1) := by decide +kernel
theorem dX1_endOf_1 : decode cX1_endOf 1 = .ok (.iconst 1, 1) := by decide +kernel
theorem dX1_endOf_2 : decode cX1_endOf 2 = .ok (.iadd, 1) := by decide +kernel
theorem dX1_endOf_3 : decode cX1_endOf 3 = .ok (.aload_n 0, 1) := by decide +kernel
theorem dX1_endOf_4 : decode cX1_endOf 4 = .ok (.getfield 30, 3) := by decide +kernel
theorem dX1_endOf_7 : decode cX1_endOf 7 = .ok (.getfield 46, 3) := by decide +kernel
theorem dX1_endOf_10 : decode cX1_endOf 10 = .ok (.if_icmp .ge 16, 3) := by decide +kernel
theorem dX1_endOf_13 : decode cX1_endOf 13 = .ok (.aload_n 0, 1) := by decide +kernel
theorem dX1_endOf_14 : decode cX1_endOf 14 = .ok (.getfield 30, 3) := by decide +kernel
theorem dX1_endOf_17 : decode cX1_endOf 17 = .ok (.iload_n 1, 1) := by decide +kernel
theorem dX1_endOf_18 : decode cX1_endOf 18 = .ok (.iconst 1, 1) := by decide +kernel
theorem dX1_endOf_19 : decode cX1_endOf 19 = .ok (.iadd, 1) := by decide +kernel
theorem dX1_endOf_20 : decode cX1_endOf 20 = .ok (.invokevirtual 66, 3) := by decide +kernel
theorem dX1_endOf_23 : decode cX1_endOf 23 = .ok (.goto 10, 3) := by decide +kernel
theorem dX1_endOf_26 : decode cX1_endOf 26 = .ok (.aload_n 0, 1) := by decide +kernel
theorem dX1_endOf_27 : decode cX1_endOf 27 = .ok (.getfield 24, 3) := by decide +kernel
theorem dX1_endOf_30 : decode cX1_endOf 30 = .ok (.getfield 46, 3) := by decide +kernel
theorem dX1_endOf_33 : decode cX1_endOf 33 = .ok (.ireturn, 1) := by decide +kernel
set_option maxRecDepth 100000 in
theorem sp_X1_endOf (G : MG) (hG : (g_l G).stackTraces = false) (d : Nat) (hd : 1 ≤ d)   (σ : MsSt) (l0 : Nat) (l1 : Int32) (h0 : ms_kd l0 = 2) : MsSpec G mX1_endOf d 0 0 [.ref l0, .int l1] σ (ms_ki σ) (f_X1_endOf σ l0 l1) := by
  refine ms_start (by decide +kernel) rfl rfl (Nat.le_of_ble_eq_true rfl) ?_
  show TrO G mX1_endOf d 0 0 0 0 (ms_ki σ) 0 [(0, .ref l0), (1, .int l1)] [] σ (if (l1 + 1) < (ms_i σ (ms_rf l0 4) 1) then (f_X5_get σ (ms_rf l0 4) (l1 + 1)).bind fun v1 => some v1 else some (ms_i σ (ms_rf l0 2) 1))
  refine tr_iload_n (i := 1) dX1_endOf_0 rfl ?_
  refine tr_iconst (v := 1) dX1_endOf_1 (by decide +kernel) ?_
  refine tr_iadd dX1_endOf_2 ?_
  refine tr_aload_n (i := 0) dX1_endOf_3 rfl ?_
  refine tr_getR 1 h0 fl_X1_30 (by decide +kernel) dX1_endOf_4 ?_
  refine tr_getI 5 (rk_1_4 h0) fl_X1_46 (by decide +kernel) dX1_endOf_7 ?_
  refine tr_icge (o := none) (tgt := 26) dX1_endOf_10 (by decide) ?_ ?_
  · refine tr_aload_n (i := 0) dX1_endOf_26 rfl ?_
    refine tr_getR 1 h0 fl_X1_24 (by decide +kernel) dX1_endOf_27 ?_
    refine tr_getI 5 (rk_1_2 h0) fl_X1_46 (by decide +kernel) dX1_endOf_30 ?_
    exact tr_iret rfl rfl (by decide) (by decide) dX1_endOf_33
  · refine tr_aload_n (i := 0) dX1_endOf_13 rfl ?_
    refine tr_getR 1 h0 fl_X1_30 (by decide +kernel) dX1_endOf_14 ?_
    refine tr_iload_n (i := 1) dX1_endOf_17 rfl ?_
    refine tr_iconst (v := 1) dX1_endOf_18 (by decide +kernel) ?_
    refine tr_iadd dX1_endOf_19 ?_
    refine tr_c_i (ms_cV (rest := []) (al := [.int (l1 + 1)]) 5 (sp_X5_get G hG (d - 1) (by omega) σ (ms_rf l0 4) (l1 + 1) (rk_1_4 h0)) (rk_1_4 h0) (by decide +kernel) kl_X1_66 fv_X5_get dX1_endOf_20 (show _ = some 1 by decide +kernel) (by omega) (Nat.le_of_ble_eq_true rfl) (by decide) (by decide)) (fun v1 => ?_)
    refine tr_goto (tgt := 33) dX1_endOf_23 (by decide) ?_
    exact tr_iret rfl rfl (by decide) (by decide) dX1_endOf_33
theorem dX1_expandAll_0 : decode cX1_expandAll 0 = .ok (.aload_n 0, 1) := by decide +kernel
theorem dX1_expandAll_1 : decode cX1_expandAll 1 = .ok (.getfield 20, 3) := by decide +kernel
theorem dX1_expandAll_4 : decode cX1_expandAll 4 = .ok (.invokevirtual 56, 3) := by decide +kernel
theorem dX1_expandAll_7 : decode cX1_expandAll 7 = .ok (.iconst 0, 1) := by decide +kernel
theorem dX1_expandAll_8 : decode cX1_expandAll 8 = .ok (.istore_n 2, 1) := by decide +kernel
theorem dX1_expandAll_9 : decode cX1_expandAll 9 = .ok (.iload_n 2, 1) := by decide +kernel
theorem dX1_expandAll_10 : decode cX1_expandAll 10 = .ok (.aload_n 1, 1) := by decide +kernel
theorem dX1_expandAll_11 : decode cX1_expandAll 11 = .ok (.getfield 46, 3) := by decide +kernel
theorem dX1_expandAll_14 : decode cX1_expandAll 14 = .ok (.if_icmp .ge 31, 3) := by decide +kernel
theorem dX1_expandAll_17 : decode cX1_expandAll 17 = .ok (.aload_n 0, 1) := by decide +kernel
theorem dX1_expandAll_18 : decode cX1_expandAll 18 = .ok (.getfield 20, 3) := by decide +kernel
theorem dX1_expandAll_21 : decode cX1_expandAll 21 = .ok (.aload_n 0, 1) := by decide +kernel
theorem dX1_expandAll_22 : decode cX1_expandAll 22 = .ok (.getfield 9, 3) := by decide +kernel
theorem dX1_expandAll_25 : decode cX1_expandAll 25 = .ok (.aload_n 1, 1) := by decide +kernel
theorem dX1_expandAll_26 : decode cX1_expandAll 26 = .ok (.iload_n 2, 1) := by decide +kernel
theorem dX1_expandAll_27 : decode cX1_expandAll 27 = .ok (.invokevirtual 66, 3) := by decide +kernel
theorem dX1_expandAll_30 : decode cX1_expandAll 30 = .ok (.invokevirtual 70, 3) := by decide +kernel
theorem dX1_expandAll_33 : decode cX1_expandAll 33 = .ok (.getfield 76, 3) := by decide +kernel
theorem dX1_expandAll_36 : decode cX1_expandAll 36 = .ok (.invokevirtual 81, 3) := by decide +kernel
theorem dX1_expandAll_39 : decode cX1_expandAll 39 = .ok (.iinc 2 1, 3) := by decide +kernel
theorem dX1_expandAll_42 : decode cX1_expandAll 42 = .ok (.goto (-33), 3) := by decide +kernel
theorem dX1_expandAll_45 : decode cX1_expandAll 45 = .ok (.return_, 1) := by decide +kernel
set_option maxRecDepth 100000 in
theorem t_X1_expandAll_9 (G : MG) (hG : (g_l G).stackTraces = false) (d : Nat) (hd : 2 ≤ d)    : ∀ (n : Nat) (σ : MsSt) (l0 : Nat) (l1 : Nat) (l2 : Int32) (h0 : ms_kd l0 = 2) (h1 : ms_kd l1 = 6), TrO G mX1_expandAll d 0 0 0 0 ms_wv 9 [(0, .ref l0), (1, .ref l1), (2, .int l2)] [] σ (f_X1_expandAll_9 n σ l0 l1 l2) := by
  intro n
  induction n with
  | zero => exact fun _ _ _ _ _ _ => tr_none
  | succ n ih =>
    intro σ l0 l1 l2 h0 h1
    show TrO G mX1_expandAll d 0 0 0 0 ms_wv 9 [(0, .ref l0), (1, .ref l1), (2, .int l2)] [] σ (if l2 < (ms_i σ l1 1) then (f_X5_get σ l1 l2).bind fun v2 => (f_X6_told σ (ms_rf l0 0) v2).bind fun v3 => (f_X5_addAll σ (ms_rf l0 1) (ms_rf v3 0)).bind fun s4 => (f_X1_expandAll_9 n) s4 l0 l1 (l2 + 1) else some σ)
    refine tr_iload_n (i := 2) dX1_expandAll_9 rfl ?_
    refine tr_aload_n (i := 1) dX1_expandAll_10 rfl ?_
    refine tr_getI 5 h1 fl_X1_46 (by decide +kernel) dX1_expandAll_11 ?_
    refine tr_icge (o := none) (tgt := 45) dX1_expandAll_14 (by decide) ?_ ?_
    · exact tr_vret rfl rfl (by decide) (by decide) dX1_expandAll_45
    · refine tr_aload_n (i := 0) dX1_expandAll_17 rfl ?_
      refine tr_getR 1 h0 fl_X1_20 (by decide +kernel) dX1_expandAll_18 ?_
      refine tr_aload_n (i := 0) dX1_expandAll_21 rfl ?_
      refine tr_getR 1 h0 fl_X1_9 (by decide +kernel) dX1_expandAll_22 ?_
      refine tr_aload_n (i := 1) dX1_expandAll_25 rfl ?_
      refine tr_iload_n (i := 2) dX1_expandAll_26 rfl ?_
      refine tr_c_i (ms_cV (rest := [.ref (ms_rf l0 0), .ref (ms_rf l0 1)]) (al := [.int l2]) 5 (sp_X5_get G hG (d - 1) (by omega) σ l1 l2 h1) h1 (by decide +kernel) kl_X1_66 fv_X5_get dX1_expandAll_27 (show _ = some 1 by decide +kernel) (by omega) (Nat.le_of_ble_eq_true rfl) (by decide) (by decide)) (fun v2 => ?_)
      refine tr_c_a (ms_cV (rest := [.ref (ms_rf l0 1)]) (al := [.int v2]) 6 (sp_X6_told G hG (d - 1) (by omega) σ (ms_rf l0 0) v2 (rk_1_0 h0)) (rk_1_0 h0) (by decide +kernel) kl_X1_70 fv_X6_told dX1_expandAll_30 (show _ = some 1 by decide +kernel) (by omega) (Nat.le_of_ble_eq_true rfl) (by decide) (by decide)) (fun v3 e_v3 => ?_)
      refine tr_getR 7 (ra_X6_told (rk_1_0 h0) e_v3) fl_X1_76 (by decide +kernel) dX1_expandAll_33 ?_
      refine tr_c_wv (ms_cV (rest := []) (al := [.ref (ms_rf v3 0)]) 5 (sp_X5_addAll G hG (d - 1) (by omega) σ (ms_rf l0 1) (ms_rf v3 0) (rk_1_1 h0) (rk_7_0 (ra_X6_told (rk_1_0 h0) e_v3))) (rk_1_1 h0) (by decide +kernel) kl_X1_81 fv_X5_addAll dX1_expandAll_36 (show _ = some 1 by decide +kernel) (by omega) (Nat.le_of_ble_eq_true rfl) (by decide) (by decide)) (fun s4 => ?_)
      refine tr_iinc (k := 2) (v := (l2 + 1)) (lv' := [(0, .ref l0), (1, .ref l1), (2, .int (l2 + 1))]) [1, 2, 0] dX1_expandAll_39 rfl rfl (by decide) rfl ?_
      refine tr_goto (tgt := 9) dX1_expandAll_42 (by decide) ?_
      exact (fun s y0 y1 y2 g0 g1 => ih s y0 y1 y2 g0 g1) s4 l0 l1 (l2 + 1) h0 h1
set_option maxRecDepth 100000 in
theorem sp_X1_expandAll (G : MG) (hG : (g_l G).stackTraces = false) (d : Nat) (hd : 2 ≤ d)   (σ : MsSt) (l0 : Nat) (l1 : Nat) (h0 : ms_kd l0 = 2) (h1 : ms_kd l1 = 6) : MsSpec G mX1_expandAll d 0 0 [.ref l0, .ref l1] σ ms_wv (f_X1_expandAll σ l0 l1) := by
  refine ms_start (by decide +kernel) rfl rfl (Nat.le_of_ble_eq_true rfl) ?_
  show TrO G mX1_expandAll d 0 0 0 0 ms_wv 0 [(0, .ref l0), (1, .ref l1)] [] σ ((f_X5_clear σ (ms_rf l0 1)).bind fun s1 => f_X1_expandAll_9 ms_fuel s1 l0 l1 0)
  refine tr_aload_n (i := 0) dX1_expandAll_0 rfl ?_
  refine tr_getR 1 h0 fl_X1_20 (by decide +kernel) dX1_expandAll_1 ?_
  refine tr_c_wv (ms_cV (rest := []) (al := []) 5 (sp_X5_clear G hG (d - 1) (by omega) σ (ms_rf l0 1) (rk_1_1 h0)) (rk_1_1 h0) (by decide +kernel) kl_X1_56 fv_X5_clear dX1_expandAll_4 (show _ = some 0 by decide +kernel) (by omega) (Nat.le_of_ble_eq_true rfl) (by decide) (by decide)) (fun s1 => ?_)
  refine tr_iconst (v := 0) dX1_expandAll_7 (by decide +kernel) ?_
  refine tr_istore_n (lv' := [(0, .ref l0), (1, .ref l1), (2, .int 0)]) [1, 2, 0] dX1_expandAll_8 (by decide) rfl ?_
  exact t_X1_expandAll_9 G hG d hd ms_fuel s1 l0 l1 0 h0 h1
theorem dX1_sinkMark_0 : decode cX1_sinkMark 0 = .ok (.aload_n 0, 1) := by decide +kernel
theorem dX1_sinkMark_1 : decode cX1_sinkMark 1 = .ok (.getfield 24, 3) := by decide +kernel
theorem dX1_sinkMark_4 : decode cX1_sinkMark 4 = .ok (.iload_n 1, 1) := by decide +kernel
theorem dX1_sinkMark_5 : decode cX1_sinkMark 5 = .ok (.invokevirtual 66, 3) := by decide +kernel
theorem dX1_sinkMark_8 : decode cX1_sinkMark 8 = .ok (.istore_n 2, 1) := by decide +kernel
theorem dX1_sinkMark_9 : decode cX1_sinkMark 9 = .ok (.aload_n 0, 1) := by decide +kernel
theorem dX1_sinkMark_10 : decode cX1_sinkMark 10 = .ok (.getfield 9, 3) := by decide +kernel
theorem dX1_sinkMark_13 : decode cX1_sinkMark 13 = .ok (.iload_n 2, 1) := by decide +kernel
theorem dX1_sinkMark_14 : decode cX1_sinkMark 14 = .ok (.invokevirtual 84, 3) := by decide +kernel
theorem dX1_sinkMark_17 : decode cX1_sinkMark 17 = .ok (.iconst 1, 1) := by decide +kernel
theorem dX1_sinkMark_18 : decode cX1_sinkMark 18 = .ok (.if_icmp .eq 4, 3) := by decide +kernel
theorem dX1_sinkMark_21 : decode cX1_sinkMark 21 = .ok (.return_, 1) := by decide +kernel
theorem dX1_sinkMark_22 : decode cX1_sinkMark 22 = .ok (.iload_n 1, 1) := by decide +kernel
theorem dX1_sinkMark_23 : decode cX1_sinkMark 23 = .ok (.istore_n 3, 1) := by decide +kernel
theorem dX1_sinkMark_24 : decode cX1_sinkMark 24 = .ok (.iload_n 3, 1) := by decide +kernel
theorem dX1_sinkMark_25 : decode cX1_sinkMark 25 = .ok (.ifCond .le 55, 3) := by decide +kernel
theorem dX1_sinkMark_28 : decode cX1_sinkMark 28 = .ok (.aload_n 0, 1) := by decide +kernel
theorem dX1_sinkMark_29 : decode cX1_sinkMark 29 = .ok (.getfield 9, 3) := by decide +kernel
theorem dX1_sinkMark_32 : decode cX1_sinkMark 32 = .ok (.aload_n 0, 1) := by decide +kernel
theorem dX1_sinkMark_33 : decode cX1_sinkMark 33 = .ok (.getfield 24, 3) := by decide +kernel
theorem dX1_sinkMark_36 : decode cX1_sinkMark 36 = .ok (.iload_n 3, 1) := by decide +kernel
theorem dX1_sinkMark_37 : decode cX1_sinkMark 37 = .ok (.iconst 1, 1) := by decide +kernel
theorem dX1_sinkMark_38 : decode cX1_sinkMark 38 = .ok (.isub, 1) := by decide +kernel
theorem dX1_sinkMark_39 : decode cX1_sinkMark 39 = .ok (.invokevirtual 66, 3) := by decide +kernel
theorem dX1_sinkMark_42 : decode cX1_sinkMark 42 = .ok (.invokevirtual 87, 3) := by decide +kernel
theorem dX1_sinkMark_45 : decode cX1_sinkMark 45 = .ok (.aload_n 0, 1) := by decide +kernel
theorem dX1_sinkMark_46 : decode cX1_sinkMark 46 = .ok (.getfield 9, 3) := by decide +kernel
theorem dX1_sinkMark_49 : decode cX1_sinkMark 49 = .ok (.iload_n 2, 1) := by decide +kernel
theorem dX1_sinkMark_50 : decode cX1_sinkMark 50 = .ok (.invokevirtual 87, 3) := by decide +kernel
theorem dX1_sinkMark_53 : decode cX1_sinkMark 53 = .ok (.if_icmp .le 27, 3) := by decide +kernel
theorem dX1_sinkMark_56 : decode cX1_sinkMark 56 = .ok (.aload_n 0, 1) := by decide +kernel
theorem dX1_sinkMark_57 : decode cX1_sinkMark 57 = .ok (.getfield 24, 3) := by decide +kernel
theorem dX1_sinkMark_60 : decode cX1_sinkMark 60 = .ok (.iload_n 3, 1) := by decide +kernel
theorem dX1_sinkMark_61 : decode cX1_sinkMark 61 = .ok (.aload_n 0, 1) := by decide +kernel
theorem dX1_sinkMark_62 : decode cX1_sinkMark 62 = .ok (.getfield 24, 3) := by decide +kernel
theorem dX1_sinkMark_65 : decode cX1_sinkMark 65 = .ok (.iload_n 3, 1) := by decide +kernel
theorem dX1_sinkMark_66 : decode cX1_sinkMark 66 = .ok (.iconst 1, 1) := by decide +kernel
theorem dX1_sinkMark_67 : decode cX1_sinkMark 67 = .ok (.isub, 1) := by decide +kernel
theorem dX1_sinkMark_68 : decode cX1_sinkMark 68 = .ok (.invokevirtual 66, 3) := by decide +kernel
theorem dX1_sinkMark_71 : decode cX1_sinkMark 71 = .ok (.invokevirtual 90, 3) := by decide +kernel
theorem dX1_sinkMark_74 : decode cX1_sinkMark 74 = .ok (.iinc 3 (-1), 3) := by decide +kernel
theorem dX1_sinkMark_77 : decode cX1_sinkMark 77 = .ok (.goto (-53), 3) := by decide +kernel
theorem dX1_sinkMark_80 : decode cX1_sinkMark 80 = .ok (.aload_n 0, 1) := by decide +kernel
theorem dX1_sinkMark_81 : decode cX1_sinkMark 81 = .ok (.getfield 24, 3) := by decide +kernel
theorem dX1_sinkMark_84 : decode cX1_sinkMark 84 = .ok (.iload_n 3, 1) := by decide +kernel
theorem dX1_sinkMark_85 : decode cX1_sinkMark 85 = .ok (.iload_n 2, 1) := by decide +kernel
theorem dX1_sinkMark_86 : decode cX1_sinkMark 86 = .ok (.invokevirtual 90, 3) := by decide +kernel
theorem dX1_sinkMark_89 : decode cX1_sinkMark 89 = .ok (.return_, 1) := by decide +kernel
set_option maxRecDepth 100000 in
theorem t_X1_sinkMark_24 (G : MG) (hG : (g_l G).stackTraces = false) (d : Nat) (hd : 2 ≤ d)    : ∀ (n : Nat) (σ : MsSt) (l0 : Nat) (l2 : Int32) (l3 : Int32) (h0 : ms_kd l0 = 2), TrO G mX1_sinkMark d 0 0 0 0 ms_wv 24 [(0, .ref l0), (2, .int l2), (3, .int l3)] [] σ (f_X1_sinkMark_24 n σ l0 l2 l3) := by
  intro n
  induction n with
  | zero => exact fun _ _ _ _ _ => tr_none
  | succ n ih =>
    intro σ l0 l2 l3 h0
    show TrO G mX1_sinkMark d 0 0 0 0 ms_wv 24 [(0, .ref l0), (2, .int l2), (3, .int l3)] [] σ (if 0 < l3 then (f_X5_get σ (ms_rf l0 2) (l3 - 1)).bind fun v4 => (f_X6_classOf σ (ms_rf l0 0) v4).bind fun v5 => (f_X6_classOf σ (ms_rf l0 0) l2).bind fun v6 => if v6 < v5 then (f_X5_get σ (ms_rf l0 2) (l3 - 1)).bind fun v8 => (f_X5_put σ (ms_rf l0 2) l3 v8).bind fun s9 => (f_X1_sinkMark_24 n) s9 l0 l2 (l3 + (-1)) else (f_X5_put σ (ms_rf l0 2) l3 l2).bind fun s7 => some s7 else (f_X5_put σ (ms_rf l0 2) l3 l2).bind fun s3 => some s3)
    refine tr_iload_n (i := 2) dX1_sinkMark_24 rfl ?_
    refine tr_ifle (o := none) (tgt := 80) dX1_sinkMark_25 (by decide) ?_ ?_
    · refine tr_aload_n (i := 0) dX1_sinkMark_80 rfl ?_
      refine tr_getR 1 h0 fl_X1_24 (by decide +kernel) dX1_sinkMark_81 ?_
      refine tr_iload_n (i := 2) dX1_sinkMark_84 rfl ?_
      refine tr_iload_n (i := 1) dX1_sinkMark_85 rfl ?_
      refine tr_c_wv (ms_cV (rest := []) (al := [.int l3, .int l2]) 5 (sp_X5_put G hG (d - 1) (by omega) σ (ms_rf l0 2) l3 l2 (rk_1_2 h0)) (rk_1_2 h0) (by decide +kernel) kl_X1_90 fv_X5_put dX1_sinkMark_86 (show _ = some 2 by decide +kernel) (by omega) (Nat.le_of_ble_eq_true rfl) (by decide) (by decide)) (fun s3 => ?_)
      exact tr_vret rfl rfl (by decide) (by decide) dX1_sinkMark_89
    · refine tr_aload_n (i := 0) dX1_sinkMark_28 rfl ?_
      refine tr_getR 1 h0 fl_X1_9 (by decide +kernel) dX1_sinkMark_29 ?_
      refine tr_aload_n (i := 0) dX1_sinkMark_32 rfl ?_
      refine tr_getR 1 h0 fl_X1_24 (by decide +kernel) dX1_sinkMark_33 ?_
      refine tr_iload_n (i := 2) dX1_sinkMark_36 rfl ?_
      refine tr_iconst (v := 1) dX1_sinkMark_37 (by decide +kernel) ?_
      refine tr_isub dX1_sinkMark_38 ?_
      refine tr_c_i (ms_cV (rest := [.ref (ms_rf l0 0)]) (al := [.int (l3 - 1)]) 5 (sp_X5_get G hG (d - 1) (by omega) σ (ms_rf l0 2) (l3 - 1) (rk_1_2 h0)) (rk_1_2 h0) (by decide +kernel) kl_X1_66 fv_X5_get dX1_sinkMark_39 (show _ = some 1 by decide +kernel) (by omega) (Nat.le_of_ble_eq_true rfl) (by decide) (by decide)) (fun v4 => ?_)
      refine tr_c_i (ms_cV (rest := []) (al := [.int v4]) 6 (sp_X6_classOf G hG (d - 1) (by omega) σ (ms_rf l0 0) v4 (rk_1_0 h0)) (rk_1_0 h0) (by decide +kernel) kl_X1_87 fv_X6_classOf dX1_sinkMark_42 (show _ = some 1 by decide +kernel) (by omega) (Nat.le_of_ble_eq_true rfl) (by decide) (by decide)) (fun v5 => ?_)
      refine tr_aload_n (i := 0) dX1_sinkMark_45 rfl ?_
      refine tr_getR 1 h0 fl_X1_9 (by decide +kernel) dX1_sinkMark_46 ?_
      refine tr_iload_n (i := 1) dX1_sinkMark_49 rfl ?_
      refine tr_c_i (ms_cV (rest := [.int v5]) (al := [.int l2]) 6 (sp_X6_classOf G hG (d - 1) (by omega) σ (ms_rf l0 0) l2 (rk_1_0 h0)) (rk_1_0 h0) (by decide +kernel) kl_X1_87 fv_X6_classOf dX1_sinkMark_50 (show _ = some 1 by decide +kernel) (by omega) (Nat.le_of_ble_eq_true rfl) (by decide) (by decide)) (fun v6 => ?_)
      refine tr_icle (o := none) (tgt := 80) dX1_sinkMark_53 (by decide) ?_ ?_
      · refine tr_aload_n (i := 0) dX1_sinkMark_80 rfl ?_
        refine tr_getR 1 h0 fl_X1_24 (by decide +kernel) dX1_sinkMark_81 ?_
        refine tr_iload_n (i := 2) dX1_sinkMark_84 rfl ?_
        refine tr_iload_n (i := 1) dX1_sinkMark_85 rfl ?_
        refine tr_c_wv (ms_cV (rest := []) (al := [.int l3, .int l2]) 5 (sp_X5_put G hG (d - 1) (by omega) σ (ms_rf l0 2) l3 l2 (rk_1_2 h0)) (rk_1_2 h0) (by decide +kernel) kl_X1_90 fv_X5_put dX1_sinkMark_86 (show _ = some 2 by decide +kernel) (by omega) (Nat.le_of_ble_eq_true rfl) (by decide) (by decide)) (fun s7 => ?_)
        exact tr_vret rfl rfl (by decide) (by decide) dX1_sinkMark_89
      · refine tr_aload_n (i := 0) dX1_sinkMark_56 rfl ?_
        refine tr_getR 1 h0 fl_X1_24 (by decide +kernel) dX1_sinkMark_57 ?_
        refine tr_iload_n (i := 2) dX1_sinkMark_60 rfl ?_
        refine tr_aload_n (i := 0) dX1_sinkMark_61 rfl ?_
        refine tr_getR 1 h0 fl_X1_24 (by decide +kernel) dX1_sinkMark_62 ?_
        refine tr_iload_n (i := 2) dX1_sinkMark_65 rfl ?_
        refine tr_iconst (v := 1) dX1_sinkMark_66 (by decide +kernel) ?_
        refine tr_isub dX1_sinkMark_67 ?_
        refine tr_c_i (ms_cV (rest := [.int l3, .ref (ms_rf l0 2)]) (al := [.int (l3 - 1)]) 5 (sp_X5_get G hG (d - 1) (by omega) σ (ms_rf l0 2) (l3 - 1) (rk_1_2 h0)) (rk_1_2 h0) (by decide +kernel) kl_X1_66 fv_X5_get dX1_sinkMark_68 (show _ = some 1 by decide +kernel) (by omega) (Nat.le_of_ble_eq_true rfl) (by decide) (by decide)) (fun v8 => ?_)
        refine tr_c_wv (ms_cV (rest := []) (al := [.int l3, .int v8]) 5 (sp_X5_put G hG (d - 1) (by omega) σ (ms_rf l0 2) l3 v8 (rk_1_2 h0)) (rk_1_2 h0) (by decide +kernel) kl_X1_90 fv_X5_put dX1_sinkMark_71 (show _ = some 2 by decide +kernel) (by omega) (Nat.le_of_ble_eq_true rfl) (by decide) (by decide)) (fun s9 => ?_)
        refine tr_iinc (k := 2) (v := (l3 + (-1))) (lv' := [(0, .ref l0), (2, .int l2), (3, .int (l3 + (-1)))]) [1, 2, 0] dX1_sinkMark_74 rfl rfl (by decide) rfl ?_
        refine tr_goto (tgt := 24) dX1_sinkMark_77 (by decide) ?_
        exact (fun s y0 y1 y2 g0 => ih s y0 y1 y2 g0) s9 l0 l2 (l3 + (-1)) h0
set_option maxRecDepth 100000 in
theorem sp_X1_sinkMark (G : MG) (hG : (g_l G).stackTraces = false) (d : Nat) (hd : 2 ≤ d)   (σ : MsSt) (l0 : Nat) (l1 : Int32) (h0 : ms_kd l0 = 2) : MsSpec G mX1_sinkMark d 0 0 [.ref l0, .int l1] σ ms_wv (f_X1_sinkMark σ l0 l1) := by
  refine ms_start (by decide +kernel) rfl rfl (Nat.le_of_ble_eq_true rfl) ?_
  show TrO G mX1_sinkMark d 0 0 0 0 ms_wv 0 [(0, .ref l0), (1, .int l1)] [] σ ((f_X5_get σ (ms_rf l0 2) l1).bind fun v1 => (f_X6_kindOf σ (ms_rf l0 0) v1).bind fun v2 => if v2 = 1 then f_X1_sinkMark_24 ms_fuel σ l0 v1 l1 else some σ)
  refine tr_aload_n (i := 0) dX1_sinkMark_0 rfl ?_
  refine tr_getR 1 h0 fl_X1_24 (by decide +kernel) dX1_sinkMark_1 ?_
  refine tr_iload_n (i := 1) dX1_sinkMark_4 rfl ?_
  refine tr_c_i (ms_cV (rest := []) (al := [.int l1]) 5 (sp_X5_get G hG (d - 1) (by omega) σ (ms_rf l0 2) l1 (rk_1_2 h0)) (rk_1_2 h0) (by decide +kernel) kl_X1_66 fv_X5_get dX1_sinkMark_5 (show _ = some 1 by decide +kernel) (by omega) (Nat.le_of_ble_eq_true rfl) (by decide) (by decide)) (fun v1 => ?_)
  refine tr_istore_n (lv' := [(0, .ref l0), (1, .int l1), (2, .int v1)]) [1, 2, 0] dX1_sinkMark_8 (by decide) rfl ?_
  refine tr_aload_n (i := 0) dX1_sinkMark_9 rfl ?_
  refine tr_getR 1 h0 fl_X1_9 (by decide +kernel) dX1_sinkMark_10 ?_
  refine tr_iload_n (i := 2) dX1_sinkMark_13 rfl ?_
  refine tr_c_i (ms_cV (rest := []) (al := [.int v1]) 6 (sp_X6_kindOf G hG (d - 1) (by omega) σ (ms_rf l0 0) v1 (rk_1_0 h0)) (rk_1_0 h0) (by decide +kernel) kl_X1_84 fv_X6_kindOf dX1_sinkMark_14 (show _ = some 1 by decide +kernel) (by omega) (Nat.le_of_ble_eq_true rfl) (by decide) (by decide)) (fun v2 => ?_)
  refine tr_iconst (v := 1) dX1_sinkMark_17 (by decide +kernel) ?_
  refine tr_iceq (o := none) (tgt := 22) dX1_sinkMark_18 (by decide) ?_ ?_
  · refine tr_iload_n (i := 1) dX1_sinkMark_22 rfl ?_
    refine tr_istore_n (lv' := [(0, .ref l0), (2, .int v1), (3, .int l1)]) [1, 3, 0] dX1_sinkMark_23 (by decide) rfl ?_
    exact t_X1_sinkMark_24 G hG d hd ms_fuel σ l0 v1 l1 h0
  · exact tr_vret rfl rfl (by decide) (by decide) dX1_sinkMark_21
theorem dX1_findClusters_0 : decode cX1_findClusters 0 = .ok (.aload_n 0, 1) := by decide +kernel
theorem dX1_findClusters_1 : decode cX1_findClusters 1 = .ok (.getfield 30, 3) := by decide +kernel
theorem dX1_findClusters_4 : decode cX1_findClusters 4 = .ok (.invokevirtual 56, 3) := by decide +kernel
theorem dX1_findClusters_7 : decode cX1_findClusters 7 = .ok (.aload_n 0, 1) := by decide +kernel
theorem dX1_findClusters_8 : decode cX1_findClusters 8 = .ok (.getfield 33, 3) := by decide +kernel
theorem dX1_findClusters_11 : decode cX1_findClusters 11 = .ok (.invokevirtual 56, 3) := by decide +kernel
theorem dX1_findClusters_14 : decode cX1_findClusters 14 = .ok (.iconst 0, 1) := by decide +kernel
theorem dX1_findClusters_15 : decode cX1_findClusters 15 = .ok (.istore_n 1, 1) := by decide +kernel
theorem dX1_findClusters_16 : decode cX1_findClusters 16 = .ok (.iload_n 1, 1) := by decide +kernel
theorem dX1_findClusters_17 : decode cX1_findClusters 17 = .ok (.aload_n 0, 1) := by decide +kernel
theorem dX1_findClusters_18 : decode cX1_findClusters 18 = .ok (.getfield 24, 3) := by decide +kernel
theorem dX1_findClusters_21 : decode cX1_findClusters 21 = .ok (.getfield 46, 3) := by decide +kernel
theorem dX1_findClusters_24 : decode cX1_findClusters 24 = .ok (.if_icmp .ge 72, 3) := by decide +kernel
theorem dX1_findClusters_27 : decode cX1_findClusters 27 = .ok (.aload_n 0, 1) := by decide +kernel
theorem dX1_findClusters_28 : decode cX1_findClusters 28 = .ok (.getfield 9, 3) := by decide +kernel
theorem dX1_findClusters_31 : decode cX1_findClusters 31 = .ok (.aload_n 0, 1) := by decide +kernel
theorem dX1_findClusters_32 : decode cX1_findClusters 32 = .ok (.getfield 24, 3) := by decide +kernel
theorem dX1_findClusters_35 : decode cX1_findClusters 35 = .ok (.iload_n 1, 1) := by decide +kernel
theorem dX1_findClusters_36 : decode cX1_findClusters 36 = .ok (.invokevirtual 66, 3) := by decide +kernel
theorem dX1_findClusters_39 : decode cX1_findClusters 39 = .ok (.invokevirtual 84, 3) := by decide +kernel
theorem dX1_findClusters_42 : decode cX1_findClusters 42 = .ok (.ifCond .ne 7, 3) := by decide +kernel
theorem dX1_findClusters_45 : decode cX1_findClusters 45 = .ok (.iconst 1, 1) := by decide +kernel
theorem dX1_findClusters_46 : decode cX1_findClusters 46 = .ok (.goto 4, 3) := by decide +kernel
theorem dX1_findClusters_49 : decode cX1_findClusters 49 = .ok (.iconst 0, 1) := by decide +kernel
theorem dX1_findClusters_50 : decode cX1_findClusters 50 = .ok (.istore_n 2, 1) := by decide +kernel
theorem dX1_findClusters_51 : decode cX1_findClusters 51 = .ok (.iload_n 1, 1) := by decide +kernel
theorem dX1_findClusters_52 : decode cX1_findClusters 52 = .ok (.ifCond .eq 7, 3) := by decide +kernel
theorem dX1_findClusters_55 : decode cX1_findClusters 55 = .ok (.iload_n 2, 1) := by decide +kernel
theorem dX1_findClusters_56 : decode cX1_findClusters 56 = .ok (.ifCond .eq 34, 3) := by decide +kernel
theorem dX1_findClusters_59 : decode cX1_findClusters 59 = .ok (.aload_n 0, 1) := by decide +kernel
theorem dX1_findClusters_60 : decode cX1_findClusters 60 = .ok (.getfield 30, 3) := by decide +kernel
theorem dX1_findClusters_63 : decode cX1_findClusters 63 = .ok (.iload_n 1, 1) := by decide +kernel
theorem dX1_findClusters_64 : decode cX1_findClusters 64 = .ok (.invokevirtual 63, 3) := by decide +kernel
theorem dX1_findClusters_67 : decode cX1_findClusters 67 = .ok (.aload_n 0, 1) := by decide +kernel
theorem dX1_findClusters_68 : decode cX1_findClusters 68 = .ok (.getfield 33, 3) := by decide +kernel
theorem dX1_findClusters_71 : decode cX1_findClusters 71 = .ok (.iload_n 2, 1) := by decide +kernel
theorem dX1_findClusters_72 : decode cX1_findClusters 72 = .ok (.ifCond .eq 14, 3) := by decide +kernel
theorem dX1_findClusters_75 : decode cX1_findClusters 75 = .ok (.aload_n 0, 1) := by decide +kernel
theorem dX1_findClusters_76 : decode cX1_findClusters 76 = .ok (.getfield 24, 3) := by decide +kernel
theorem dX1_findClusters_79 : decode cX1_findClusters 79 = .ok (.iload_n 1, 1) := by decide +kernel
theorem dX1_findClusters_80 : decode cX1_findClusters 80 = .ok (.invokevirtual 66, 3) := by decide +kernel
theorem dX1_findClusters_83 : decode cX1_findClusters 83 = .ok (.goto 4, 3) := by decide +kernel
theorem dX1_findClusters_86 : decode cX1_findClusters 86 = .ok (.iconst (-1), 1) := by decide +kernel
theorem dX1_findClusters_87 : decode cX1_findClusters 87 = .ok (.invokevirtual 63, 3) := by decide +kernel
theorem dX1_findClusters_90 : decode cX1_findClusters 90 = .ok (.iinc 1 1, 3) := by decide +kernel
theorem dX1_findClusters_93 : decode cX1_findClusters 93 = .ok (.goto (-77), 3) := by decide +kernel
theorem dX1_findClusters_96 : decode cX1_findClusters 96 = .ok (.return_, 1) := by decide +kernel
set_option maxRecDepth 100000 in
theorem t_X1_findClusters_59 (G : MG) (hG : (g_l G).stackTraces = false) (d : Nat) (hd : 2 ≤ d)   (k16 : MsSt → Nat → Int32 → Option (MsSt)) (hk16 : ∀ (s : MsSt) (x1 : Nat) (x2 : Int32), ms_kd x1 = 2 → TrO G mX1_findClusters d 0 0 0 0 ms_wv 16 [(0, .ref x1), (1, .int x2)] [] s (k16 s x1 x2)) (σ : MsSt) (l0 : Nat) (l1 : Int32) (l2 : Int32) (h0 : ms_kd l0 = 2) : TrO G mX1_findClusters d 0 0 0 0 ms_wv 59 [(0, .ref l0), (1, .int l1), (2, .int l2)] [] σ (f_X1_findClusters_59 k16 σ l0 l1 l2) := by
  show TrO G mX1_findClusters d 0 0 0 0 ms_wv 59 [(0, .ref l0), (1, .int l1), (2, .int l2)] [] σ ((f_X5_add σ (ms_rf l0 4) l1).bind fun s5 => if l2 = 0 then (f_X5_add s5 (ms_rf l0 5) (-1)).bind fun s6 => k16 s6 l0 (l1 + 1) else (f_X5_get s5 (ms_rf l0 2) l1).bind fun v7 => (f_X5_add s5 (ms_rf l0 5) v7).bind fun s8 => k16 s8 l0 (l1 + 1))
  refine tr_aload_n (i := 0) dX1_findClusters_59 rfl ?_
  refine tr_getR 1 h0 fl_X1_30 (by decide +kernel) dX1_findClusters_60 ?_
  refine tr_iload_n (i := 1) dX1_findClusters_63 rfl ?_
  refine tr_c_wv (ms_cV (rest := []) (al := [.int l1]) 5 (sp_X5_add G hG (d - 1) (by omega) σ (ms_rf l0 4) l1 (rk_1_4 h0)) (rk_1_4 h0) (by decide +kernel) kl_X1_63 fv_X5_add dX1_findClusters_64 (show _ = some 1 by decide +kernel) (by omega) (Nat.le_of_ble_eq_true rfl) (by decide) (by decide)) (fun s5 => ?_)
  refine tr_aload_n (i := 0) dX1_findClusters_67 rfl ?_
  refine tr_getR 1 h0 fl_X1_33 (by decide +kernel) dX1_findClusters_68 ?_
  refine tr_iload_n (i := 2) dX1_findClusters_71 rfl ?_
  refine tr_ifeq (o := none) (tgt := 86) dX1_findClusters_72 (by decide) ?_ ?_
  · refine tr_iconst (v := (-1)) dX1_findClusters_86 (by decide +kernel) ?_
    refine tr_c_wv (ms_cV (rest := []) (al := [.int (-1)]) 5 (sp_X5_add G hG (d - 1) (by omega) s5 (ms_rf l0 5) (-1) (rk_1_5 h0)) (rk_1_5 h0) (by decide +kernel) kl_X1_63 fv_X5_add dX1_findClusters_87 (show _ = some 1 by decide +kernel) (by omega) (Nat.le_of_ble_eq_true rfl) (by decide) (by decide)) (fun s6 => ?_)
    refine tr_iinc (k := 1) (v := (l1 + 1)) (lv' := [(0, .ref l0), (1, .int (l1 + 1))]) [1, 0] dX1_findClusters_90 rfl rfl (by decide) rfl ?_
    refine tr_goto (tgt := 16) dX1_findClusters_93 (by decide) ?_
    exact hk16 s6 l0 (l1 + 1) h0
  · refine tr_aload_n (i := 0) dX1_findClusters_75 rfl ?_
    refine tr_getR 1 h0 fl_X1_24 (by decide +kernel) dX1_findClusters_76 ?_
    refine tr_iload_n (i := 1) dX1_findClusters_79 rfl ?_
    refine tr_c_i (ms_cV (rest := [.ref (ms_rf l0 5)]) (al := [.int l1]) 5 (sp_X5_get G hG (d - 1) (by omega) s5 (ms_rf l0 2) l1 (rk_1_2 h0)) (rk_1_2 h0) (by decide +kernel) kl_X1_66 fv_X5_get dX1_findClusters_80 (show _ = some 1 by decide +kernel) (by omega) (Nat.le_of_ble_eq_true rfl) (by decide) (by decide)) (fun v7 => ?_)
    refine tr_goto (tgt := 87) dX1_findClusters_83 (by decide) ?_
    refine tr_c_wv (ms_cV (rest := []) (al := [.int v7]) 5 (sp_X5_add G hG (d - 1) (by omega) s5 (ms_rf l0 5) v7 (rk_1_5 h0)) (rk_1_5 h0) (by decide +kernel) kl_X1_63 fv_X5_add dX1_findClusters_87 (show _ = some 1 by decide +kernel) (by omega) (Nat.le_of_ble_eq_true rfl) (by decide) (by decide)) (fun s8 => ?_)
    refine tr_iinc (k := 1) (v := (l1 + 1)) (lv' := [(0, .ref l0), (1, .int (l1 + 1))]) [1, 0] dX1_findClusters_90 rfl rfl (by decide) rfl ?_
    refine tr_goto (tgt := 16) dX1_findClusters_93 (by decide) ?_
    exact hk16 s8 l0 (l1 + 1) h0
set_option maxRecDepth 100000 in
theorem t_X1_findClusters_50 (G : MG) (hG : (g_l G).stackTraces = false) (d : Nat) (hd : 2 ≤ d)   (k16 : MsSt → Nat → Int32 → Option (MsSt)) (hk16 : ∀ (s : MsSt) (x1 : Nat) (x2 : Int32), ms_kd x1 = 2 → TrO G mX1_findClusters d 0 0 0 0 ms_wv 16 [(0, .ref x1), (1, .int x2)] [] s (k16 s x1 x2)) (σ : MsSt) (l0 : Nat) (l1 : Int32) (t0 : Int32) (h0 : ms_kd l0 = 2) : TrO G mX1_findClusters d 0 0 0 0 ms_wv 50 [(0, .ref l0), (1, .int l1)] [.int t0] σ (f_X1_findClusters_50 k16 σ l0 l1 t0) := by
  show TrO G mX1_findClusters d 0 0 0 0 ms_wv 50 [(0, .ref l0), (1, .int l1)] [.int t0] σ (if l1 = 0 then f_X1_findClusters_59 k16 σ l0 l1 t0 else if t0 = 0 then k16 σ l0 (l1 + 1) else f_X1_findClusters_59 k16 σ l0 l1 t0)
  refine tr_istore_n (lv' := [(0, .ref l0), (1, .int l1), (2, .int t0)]) [1, 2, 0] dX1_findClusters_50 (by decide) rfl ?_
  refine tr_iload_n (i := 1) dX1_findClusters_51 rfl ?_
  refine tr_ifeq (o := none) (tgt := 59) dX1_findClusters_52 (by decide) ?_ ?_
  · exact t_X1_findClusters_59 G hG d hd k16 hk16 σ l0 l1 t0 h0
  · refine tr_iload_n (i := 2) dX1_findClusters_55 rfl ?_
    refine tr_ifeq (o := none) (tgt := 90) dX1_findClusters_56 (by decide) ?_ ?_
    · refine tr_iinc (k := 1) (v := (l1 + 1)) (lv' := [(0, .ref l0), (1, .int (l1 + 1))]) [1, 0] dX1_findClusters_90 rfl rfl (by decide) rfl ?_
      refine tr_goto (tgt := 16) dX1_findClusters_93 (by decide) ?_
      exact hk16 σ l0 (l1 + 1) h0
    · exact t_X1_findClusters_59 G hG d hd k16 hk16 σ l0 l1 t0 h0
set_option maxRecDepth 100000 in
theorem t_X1_findClusters_16 (G : MG) (hG : (g_l G).stackTraces = false) (d : Nat) (hd : 2 ≤ d)    : ∀ (n : Nat) (σ : MsSt) (l0 : Nat) (l1 : Int32) (h0 : ms_kd l0 = 2), TrO G mX1_findClusters d 0 0 0 0 ms_wv 16 [(0, .ref l0), (1, .int l1)] [] σ (f_X1_findClusters_16 n σ l0 l1) := by
  intro n
  induction n with
  | zero => exact fun _ _ _ _ => tr_none
  | succ n ih =>
    intro σ l0 l1 h0
    show TrO G mX1_findClusters d 0 0 0 0 ms_wv 16 [(0, .ref l0), (1, .int l1)] [] σ (if l1 < (ms_i σ (ms_rf l0 2) 1) then (f_X5_get σ (ms_rf l0 2) l1).bind fun v3 => (f_X6_kindOf σ (ms_rf l0 0) v3).bind fun v4 => if v4 = 0 then f_X1_findClusters_50 (f_X1_findClusters_16 n) σ l0 l1 1 else f_X1_findClusters_50 (f_X1_findClusters_16 n) σ l0 l1 0 else some σ)
    refine tr_iload_n (i := 1) dX1_findClusters_16 rfl ?_
    refine tr_aload_n (i := 0) dX1_findClusters_17 rfl ?_
    refine tr_getR 1 h0 fl_X1_24 (by decide +kernel) dX1_findClusters_18 ?_
    refine tr_getI 5 (rk_1_2 h0) fl_X1_46 (by decide +kernel) dX1_findClusters_21 ?_
    refine tr_icge (o := none) (tgt := 96) dX1_findClusters_24 (by decide) ?_ ?_
    · exact tr_vret rfl rfl (by decide) (by decide) dX1_findClusters_96
    · refine tr_aload_n (i := 0) dX1_findClusters_27 rfl ?_
      refine tr_getR 1 h0 fl_X1_9 (by decide +kernel) dX1_findClusters_28 ?_
      refine tr_aload_n (i := 0) dX1_findClusters_31 rfl ?_
      refine tr_getR 1 h0 fl_X1_24 (by decide +kernel) dX1_findClusters_32 ?_
      refine tr_iload_n (i := 1) dX1_findClusters_35 rfl ?_
      refine tr_c_i (ms_cV (rest := [.ref (ms_rf l0 0)]) (al := [.int l1]) 5 (sp_X5_get G hG (d - 1) (by omega) σ (ms_rf l0 2) l1 (rk_1_2 h0)) (rk_1_2 h0) (by decide +kernel) kl_X1_66 fv_X5_get dX1_findClusters_36 (show _ = some 1 by decide +kernel) (by omega) (Nat.le_of_ble_eq_true rfl) (by decide) (by decide)) (fun v3 => ?_)
      refine tr_c_i (ms_cV (rest := []) (al := [.int v3]) 6 (sp_X6_kindOf G hG (d - 1) (by omega) σ (ms_rf l0 0) v3 (rk_1_0 h0)) (rk_1_0 h0) (by decide +kernel) kl_X1_84 fv_X6_kindOf dX1_findClusters_39 (show _ = some 1 by decide +kernel) (by omega) (Nat.le_of_ble_eq_true rfl) (by decide) (by decide)) (fun v4 => ?_)
      refine tr_ifne (o := none) (tgt := 49) dX1_findClusters_42 (by decide) ?_ ?_
      · refine tr_iconst (v := 0) dX1_findClusters_49 (by decide +kernel) ?_
        exact t_X1_findClusters_50 G hG d hd (f_X1_findClusters_16 n) (fun s y0 y1 g0 => ih s y0 y1 g0) σ l0 l1 0 h0
      · refine tr_iconst (v := 1) dX1_findClusters_45 (by decide +kernel) ?_
        refine tr_goto (tgt := 50) dX1_findClusters_46 (by decide) ?_
        exact t_X1_findClusters_50 G hG d hd (f_X1_findClusters_16 n) (fun s y0 y1 g0 => ih s y0 y1 g0) σ l0 l1 1 h0
set_option maxRecDepth 100000 in
theorem sp_X1_findClusters (G : MG) (hG : (g_l G).stackTraces = false) (d : Nat) (hd : 2 ≤ d)   (σ : MsSt) (l0 : Nat) (h0 : ms_kd l0 = 2) : MsSpec G mX1_findClusters d 0 0 [.ref l0] σ ms_wv (f_X1_findClusters σ l0) := by
  refine ms_start (by decide +kernel) rfl rfl (Nat.le_of_ble_eq_true rfl) ?_
  show TrO G mX1_findClusters d 0 0 0 0 ms_wv 0 [(0, .ref l0)] [] σ ((f_X5_clear σ (ms_rf l0 4)).bind fun s1 => (f_X5_clear s1 (ms_rf l0 5)).bind fun s2 => f_X1_findClusters_16 ms_fuel s2 l0 0)
  refine tr_aload_n (i := 0) dX1_findClusters_0 rfl ?_
  refine tr_getR 1 h0 fl_X1_30 (by decide +kernel) dX1_findClusters_1 ?_
  refine tr_c_wv (ms_cV (rest := []) (al := []) 5 (sp_X5_clear G hG (d - 1) (by omega) σ (ms_rf l0 4) (rk_1_4 h0)) (rk_1_4 h0) (by decide +kernel) kl_X1_56 fv_X5_clear dX1_findClusters_4 (show _ = some 0 by decide +kernel) (by omega) (Nat.le_of_ble_eq_true rfl) (by decide) (by decide)) (fun s1 => ?_)
  refine tr_aload_n (i := 0) dX1_findClusters_7 rfl ?_
  refine tr_getR 1 h0 fl_X1_33 (by decide +kernel) dX1_findClusters_8 ?_
  refine tr_c_wv (ms_cV (rest := []) (al := []) 5 (sp_X5_clear G hG (d - 1) (by omega) s1 (ms_rf l0 5) (rk_1_5 h0)) (rk_1_5 h0) (by decide +kernel) kl_X1_56 fv_X5_clear dX1_findClusters_11 (show _ = some 0 by decide +kernel) (by omega) (Nat.le_of_ble_eq_true rfl) (by decide) (by decide)) (fun s2 => ?_)
  refine tr_iconst (v := 0) dX1_findClusters_14 (by decide +kernel) ?_
  refine tr_istore_n (lv' := [(0, .ref l0), (1, .int 0)]) [1, 0] dX1_findClusters_15 (by decide) rfl ?_
  exact t_X1_findClusters_16 G hG d hd ms_fuel s2 l0 0 h0
theorem dX1_composeCluster_0 : decode cX1_composeCluster 0 = .ok (.aload_n 0, 1) := by decide +kernel
theorem dX1_composeCluster_1 : decode cX1_composeCluster 1 = .ok (.getfield 33, 3) := by decide +kernel
theorem dX1_composeCluster_4 : decode cX1_composeCluster 4 = .ok (.iload_n 1, 1) := by decide +kernel
theorem dX1_composeCluster_5 : decode cX1_composeCluster 5 = .ok (.invokevirtual 66, 3) := by decide +kernel
theorem dX1_composeCluster_8 : decode cX1_composeCluster 8 = .ok (.istore_n 3, 1) := by decide +kernel
theorem dX1_composeCluster_9 : decode cX1_composeCluster 9 = .ok (.aload_n 0, 1) := by decide +kernel
theorem dX1_composeCluster_10 : decode cX1_composeCluster 10 = .ok (.getfield 27, 3) := by decide +kernel
theorem dX1_composeCluster_13 : decode cX1_composeCluster 13 = .ok (.getfield 46, 3) := by decide +kernel
theorem dX1_composeCluster_16 : decode cX1_composeCluster 16 = .ok (.istore 4, 2) := by decide +kernel
theorem dX1_composeCluster_18 : decode cX1_composeCluster 18 = .ok (.iload_n 3, 1) := by decide +kernel
theorem dX1_composeCluster_19 : decode cX1_composeCluster 19 = .ok (.iconst (-1), 1) := by decide +kernel
theorem dX1_composeCluster_20 : decode cX1_composeCluster 20 = .ok (.if_icmp .eq 11, 3) := by decide +kernel
theorem dX1_composeCluster_23 : decode cX1_composeCluster 23 = .ok (.aload_n 0, 1) := by decide +kernel
theorem dX1_composeCluster_24 : decode cX1_composeCluster 24 = .ok (.getfield 27, 3) := by decide +kernel
theorem dX1_composeCluster_27 : decode cX1_composeCluster 27 = .ok (.iload_n 3, 1) := by decide +kernel
theorem dX1_composeCluster_28 : decode cX1_composeCluster 28 = .ok (.invokevirtual 63, 3) := by decide +kernel
theorem dX1_composeCluster_31 : decode cX1_composeCluster 31 = .ok (.iconst 0, 1) := by decide +kernel
theorem dX1_composeCluster_32 : decode cX1_composeCluster 32 = .ok (.istore 5, 2) := by decide +kernel
theorem dX1_composeCluster_34 : decode cX1_composeCluster 34 = .ok (.aload_n 0, 1) := by decide +kernel
theorem dX1_composeCluster_35 : decode cX1_composeCluster 35 = .ok (.iload_n 1, 1) := by decide +kernel
theorem dX1_composeCluster_36 : decode cX1_composeCluster 36 = .ok (.invokevirtual 93, 3) := by decide +kernel
theorem dX1_composeCluster_39 : decode cX1_composeCluster 39 = .ok (.istore 6, 2) := by decide +kernel
theorem dX1_composeCluster_41 : decode cX1_composeCluster 41 = .ok (.iload 6, 2) := by decide +kernel
theorem dX1_composeCluster_43 : decode cX1_composeCluster 43 = .ok (.aload_n 0, 1) := by decide +kernel
theorem dX1_composeCluster_44 : decode cX1_composeCluster 44 = .ok (.iload_n 1, 1) := by decide +kernel
theorem dX1_composeCluster_45 : decode cX1_composeCluster 45 = .ok (.invokevirtual 96, 3) := by decide +kernel
theorem dX1_composeCluster_48 : decode cX1_composeCluster 48 = .ok (.if_icmp .ge 111, 3) := by decide +kernel
theorem dX1_composeCluster_51 : decode cX1_composeCluster 51 = .ok (.aload_n 0, 1) := by decide +kernel
theorem dX1_composeCluster_52 : decode cX1_composeCluster 52 = .ok (.getfield 24, 3) := by decide +kernel
theorem dX1_composeCluster_55 : decode cX1_composeCluster 55 = .ok (.iload 6, 2) := by decide +kernel
theorem dX1_composeCluster_57 : decode cX1_composeCluster 57 = .ok (.invokevirtual 66, 3) := by decide +kernel
theorem dX1_composeCluster_60 : decode cX1_composeCluster 60 = .ok (.istore 7, 2) := by decide +kernel
theorem dX1_composeCluster_62 : decode cX1_composeCluster 62 = .ok (.iload_n 3, 1) := by decide +kernel
theorem dX1_composeCluster_63 : decode cX1_composeCluster 63 = .ok (.iconst (-1), 1) := by decide +kernel
theorem dX1_composeCluster_64 : decode cX1_composeCluster 64 = .ok (.if_icmp .eq 17, 3) := by decide +kernel
theorem dX1_composeCluster_67 : decode cX1_composeCluster 67 = .ok (.aload_n 0, 1) := by decide +kernel
theorem dX1_composeCluster_68 : decode cX1_composeCluster 68 = .ok (.getfield 9, 3) := by decide +kernel
theorem dX1_composeCluster_71 : decode cX1_composeCluster 71 = .ok (.iload 7, 2) := by decide +kernel
theorem dX1_composeCluster_73 : decode cX1_composeCluster 73 = .ok (.invokevirtual 87, 3) := by decide +kernel
theorem dX1_composeCluster_76 : decode cX1_composeCluster 76 = .ok (.iload 5, 2) := by decide +kernel
theorem dX1_composeCluster_78 : decode cX1_composeCluster 78 = .ok (.if_icmp .ne 7, 3) := by decide +kernel
theorem dX1_composeCluster_81 : decode cX1_composeCluster 81 = .ok (.iconst 1, 1) := by decide +kernel
theorem dX1_composeCluster_82 : decode cX1_composeCluster 82 = .ok (.goto 4, 3) := by decide +kernel
theorem dX1_composeCluster_85 : decode cX1_composeCluster 85 = .ok (.iconst 0, 1) := by decide +kernel
theorem dX1_composeCluster_86 : decode cX1_composeCluster 86 = .ok (.istore 8, 2) := by decide +kernel
theorem dX1_composeCluster_88 : decode cX1_composeCluster 88 = .ok (.iload 8, 2) := by decide +kernel
theorem dX1_composeCluster_90 : decode cX1_composeCluster 90 = .ok (.ifCond .eq 7, 3) := by decide +kernel
theorem dX1_composeCluster_93 : decode cX1_composeCluster 93 = .ok (.iconst (-1), 1) := by decide +kernel
theorem dX1_composeCluster_94 : decode cX1_composeCluster 94 = .ok (.goto 14, 3) := by decide +kernel
theorem dX1_composeCluster_97 : decode cX1_composeCluster 97 = .ok (.aload_n 0, 1) := by decide +kernel
theorem dX1_composeCluster_98 : decode cX1_composeCluster 98 = .ok (.getfield 9, 3) := by decide +kernel
theorem dX1_composeCluster_101 : decode cX1_composeCluster 101 = .ok (.iload_n 3, 1) := by decide +kernel
theorem dX1_composeCluster_102 : decode cX1_composeCluster 102 = .ok (.iload 7, 2) := by decide +kernel
theorem dX1_composeCluster_104 : decode cX1_composeCluster 104 = .ok (.iload_n 2, 1) := by decide +kernel
theorem dX1_composeCluster_105 : decode cX1_composeCluster 105 = .ok (.invokevirtual 99, 3) := by decide +kernel
theorem dX1_composeCluster_108 : decode cX1_composeCluster 108 = .ok (.istore 9, 2) := by decide +kernel
theorem dX1_composeCluster_110 : decode cX1_composeCluster 110 = .ok (.iload 9, 2) := by decide +kernel
theorem dX1_composeCluster_112 : decode cX1_composeCluster 112 = .ok (.iconst (-1), 1) := by decide +kernel
theorem dX1_composeCluster_113 : decode cX1_composeCluster 113 = .ok (.if_icmp .ne 26, 3) := by decide +kernel
theorem dX1_composeCluster_116 : decode cX1_composeCluster 116 = .ok (.aload_n 0, 1) := by decide +kernel
theorem dX1_composeCluster_117 : decode cX1_composeCluster 117 = .ok (.getfield 27, 3) := by decide +kernel
theorem dX1_composeCluster_120 : decode cX1_composeCluster 120 = .ok (.iload 7, 2) := by decide +kernel
theorem dX1_composeCluster_122 : decode cX1_composeCluster 122 = .ok (.invokevirtual 63, 3) := by decide +kernel
theorem dX1_composeCluster_125 : decode cX1_composeCluster 125 = .ok (.aload_n 0, 1) := by decide +kernel
theorem dX1_composeCluster_126 : decode cX1_composeCluster 126 = .ok (.getfield 9, 3) := by decide +kernel
theorem dX1_composeCluster_129 : decode cX1_composeCluster 129 = .ok (.iload 7, 2) := by decide +kernel
theorem dX1_composeCluster_131 : decode cX1_composeCluster 131 = .ok (.invokevirtual 87, 3) := by decide +kernel
theorem dX1_composeCluster_134 : decode cX1_composeCluster 134 = .ok (.istore 5, 2) := by decide +kernel
theorem dX1_composeCluster_136 : decode cX1_composeCluster 136 = .ok (.goto 17, 3) := by decide +kernel
theorem dX1_composeCluster_139 : decode cX1_composeCluster 139 = .ok (.aload_n 0, 1) := by decide +kernel
theorem dX1_composeCluster_140 : decode cX1_composeCluster 140 = .ok (.getfield 27, 3) := by decide +kernel
theorem dX1_composeCluster_143 : decode cX1_composeCluster 143 = .ok (.iload 4, 2) := by decide +kernel
theorem dX1_composeCluster_145 : decode cX1_composeCluster 145 = .ok (.iload 9, 2) := by decide +kernel
theorem dX1_composeCluster_147 : decode cX1_composeCluster 147 = .ok (.invokevirtual 90, 3) := by decide +kernel
theorem dX1_composeCluster_150 : decode cX1_composeCluster 150 = .ok (.iload 9, 2) := by decide +kernel
theorem dX1_composeCluster_152 : decode cX1_composeCluster 152 = .ok (.istore_n 3, 1) := by decide +kernel
theorem dX1_composeCluster_153 : decode cX1_composeCluster 153 = .ok (.iinc 6 1, 3) := by decide +kernel
theorem dX1_composeCluster_156 : decode cX1_composeCluster 156 = .ok (.goto (-115), 3) := by decide +kernel
theorem dX1_composeCluster_159 : decode cX1_composeCluster 159 = .ok (.return_, 1) := by decide +kernel
set_option maxRecDepth 100000 in
theorem t_X1_composeCluster_108 (G : MG) (hG : (g_l G).stackTraces = false) (d : Nat) (hd : 3 ≤ d)   (k41 : MsSt → Nat → Int32 → Int32 → Int32 → Int32 → Int32 → Int32 → Option (MsSt)) (hk41 : ∀ (s : MsSt) (x1 : Nat) (x2 : Int32) (x3 : Int32) (x4 : Int32) (x5 : Int32) (x6 : Int32) (x7 : Int32), ms_kd x1 = 2 → TrO G mX1_composeCluster d 0 0 0 0 ms_wv 41 [(0, .ref x1), (1, .int x2), (2, .int x3), (3, .int x4), (4, .int x5), (5, .int x6), (6, .int x7)] [] s (k41 s x1 x2 x3 x4 x5 x6 x7)) (σ : MsSt) (l0 : Nat) (l1 : Int32) (l2 : Int32) (l3 : Int32) (l4 : Int32) (l5 : Int32) (l6 : Int32) (l7 : Int32) (t0 : Int32) (h0 : ms_kd l0 = 2) : TrO G mX1_composeCluster d 0 0 0 0 ms_wv 108 [(0, .ref l0), (1, .int l1), (2, .int l2), (3, .int l3), (4, .int l4), (5, .int l5), (6, .int l6), (7, .int l7)] [.int t0] σ (f_X1_composeCluster_108 k41 σ l0 l1 l2 l3 l4 l5 l6 l7 t0) := by
  show TrO G mX1_composeCluster d 0 0 0 0 ms_wv 108 [(0, .ref l0), (1, .int l1), (2, .int l2), (3, .int l3), (4, .int l4), (5, .int l5), (6, .int l6), (7, .int l7)] [.int t0] σ (if t0 = (-1) then (f_X5_add σ (ms_rf l0 3) l7).bind fun s7 => (f_X6_classOf s7 (ms_rf l0 0) l7).bind fun v8 => k41 s7 l0 l1 l2 l3 l4 v8 (l6 + 1) else (f_X5_put σ (ms_rf l0 3) l4 t0).bind fun s6 => k41 s6 l0 l1 l2 t0 l4 l5 (l6 + 1))
  refine tr_istore (lv' := [(0, .ref l0), (1, .int l1), (2, .int l2), (3, .int l3), (4, .int l4), (5, .int l5), (6, .int l6), (7, .int l7), (9, .int t0)]) [1, 2, 3, 4, 5, 6, 7, 8, 0] dX1_composeCluster_108 (by decide) rfl ?_
  refine tr_iload (i := 8) dX1_composeCluster_110 rfl ?_
  refine tr_iconst (v := (-1)) dX1_composeCluster_112 (by decide +kernel) ?_
  refine tr_icne (o := none) (tgt := 139) dX1_composeCluster_113 (by decide) ?_ ?_
  · refine tr_aload_n (i := 0) dX1_composeCluster_139 rfl ?_
    refine tr_getR 1 h0 fl_X1_27 (by decide +kernel) dX1_composeCluster_140 ?_
    refine tr_iload (i := 4) dX1_composeCluster_143 rfl ?_
    refine tr_iload (i := 8) dX1_composeCluster_145 rfl ?_
    refine tr_c_wv (ms_cV (rest := []) (al := [.int l4, .int t0]) 5 (sp_X5_put G hG (d - 1) (by omega) σ (ms_rf l0 3) l4 t0 (rk_1_3 h0)) (rk_1_3 h0) (by decide +kernel) kl_X1_90 fv_X5_put dX1_composeCluster_147 (show _ = some 2 by decide +kernel) (by omega) (Nat.le_of_ble_eq_true rfl) (by decide) (by decide)) (fun s6 => ?_)
    refine tr_iload (i := 8) dX1_composeCluster_150 rfl ?_
    refine tr_istore_n (lv' := [(0, .ref l0), (1, .int l1), (2, .int l2), (3, .int t0), (4, .int l4), (5, .int l5), (6, .int l6)]) [1, 2, 3, 0, 4, 5, 6] dX1_composeCluster_152 (by decide) rfl ?_
    refine tr_iinc (k := 6) (v := (l6 + 1)) (lv' := [(0, .ref l0), (1, .int l1), (2, .int l2), (3, .int t0), (4, .int l4), (5, .int l5), (6, .int (l6 + 1))]) [1, 2, 3, 4, 5, 6, 0] dX1_composeCluster_153 rfl rfl (by decide) rfl ?_
    refine tr_goto (tgt := 41) dX1_composeCluster_156 (by decide) ?_
    exact hk41 s6 l0 l1 l2 t0 l4 l5 (l6 + 1) h0
  · refine tr_aload_n (i := 0) dX1_composeCluster_116 rfl ?_
    refine tr_getR 1 h0 fl_X1_27 (by decide +kernel) dX1_composeCluster_117 ?_
    refine tr_iload (i := 7) dX1_composeCluster_120 rfl ?_
    refine tr_c_wv (ms_cV (rest := []) (al := [.int l7]) 5 (sp_X5_add G hG (d - 1) (by omega) σ (ms_rf l0 3) l7 (rk_1_3 h0)) (rk_1_3 h0) (by decide +kernel) kl_X1_63 fv_X5_add dX1_composeCluster_122 (show _ = some 1 by decide +kernel) (by omega) (Nat.le_of_ble_eq_true rfl) (by decide) (by decide)) (fun s7 => ?_)
    refine tr_aload_n (i := 0) dX1_composeCluster_125 rfl ?_
    refine tr_getR 1 h0 fl_X1_9 (by decide +kernel) dX1_composeCluster_126 ?_
    refine tr_iload (i := 7) dX1_composeCluster_129 rfl ?_
    refine tr_c_i (ms_cV (rest := []) (al := [.int l7]) 6 (sp_X6_classOf G hG (d - 1) (by omega) s7 (ms_rf l0 0) l7 (rk_1_0 h0)) (rk_1_0 h0) (by decide +kernel) kl_X1_87 fv_X6_classOf dX1_composeCluster_131 (show _ = some 1 by decide +kernel) (by omega) (Nat.le_of_ble_eq_true rfl) (by decide) (by decide)) (fun v8 => ?_)
    refine tr_istore (lv' := [(0, .ref l0), (1, .int l1), (2, .int l2), (3, .int l3), (4, .int l4), (5, .int v8), (6, .int l6)]) [1, 2, 3, 4, 5, 0, 6] dX1_composeCluster_134 (by decide) rfl ?_
    refine tr_goto (tgt := 153) dX1_composeCluster_136 (by decide) ?_
    refine tr_iinc (k := 6) (v := (l6 + 1)) (lv' := [(0, .ref l0), (1, .int l1), (2, .int l2), (3, .int l3), (4, .int l4), (5, .int v8), (6, .int (l6 + 1))]) [1, 2, 3, 4, 5, 6, 0] dX1_composeCluster_153 rfl rfl (by decide) rfl ?_
    refine tr_goto (tgt := 41) dX1_composeCluster_156 (by decide) ?_
    exact hk41 s7 l0 l1 l2 l3 l4 v8 (l6 + 1) h0
set_option maxRecDepth 100000 in
theorem t_X1_composeCluster_86 (G : MG) (hG : (g_l G).stackTraces = false) (d : Nat) (hd : 3 ≤ d)   (k41 : MsSt → Nat → Int32 → Int32 → Int32 → Int32 → Int32 → Int32 → Option (MsSt)) (hk41 : ∀ (s : MsSt) (x1 : Nat) (x2 : Int32) (x3 : Int32) (x4 : Int32) (x5 : Int32) (x6 : Int32) (x7 : Int32), ms_kd x1 = 2 → TrO G mX1_composeCluster d 0 0 0 0 ms_wv 41 [(0, .ref x1), (1, .int x2), (2, .int x3), (3, .int x4), (4, .int x5), (5, .int x6), (6, .int x7)] [] s (k41 s x1 x2 x3 x4 x5 x6 x7)) (σ : MsSt) (l0 : Nat) (l1 : Int32) (l2 : Int32) (l3 : Int32) (l4 : Int32) (l5 : Int32) (l6 : Int32) (l7 : Int32) (t0 : Int32) (h0 : ms_kd l0 = 2) : TrO G mX1_composeCluster d 0 0 0 0 ms_wv 86 [(0, .ref l0), (1, .int l1), (2, .int l2), (3, .int l3), (4, .int l4), (5, .int l5), (6, .int l6), (7, .int l7)] [.int t0] σ (f_X1_composeCluster_86 k41 σ l0 l1 l2 l3 l4 l5 l6 l7 t0) := by
  show TrO G mX1_composeCluster d 0 0 0 0 ms_wv 86 [(0, .ref l0), (1, .int l1), (2, .int l2), (3, .int l3), (4, .int l4), (5, .int l5), (6, .int l6), (7, .int l7)] [.int t0] σ (if t0 = 0 then (f_X6_findMade σ (ms_rf l0 0) l3 l7 l2).bind fun v5 => f_X1_composeCluster_108 k41 σ l0 l1 l2 l3 l4 l5 l6 l7 v5 else f_X1_composeCluster_108 k41 σ l0 l1 l2 l3 l4 l5 l6 l7 (-1))
  refine tr_istore (lv' := [(0, .ref l0), (1, .int l1), (2, .int l2), (3, .int l3), (4, .int l4), (5, .int l5), (6, .int l6), (7, .int l7), (8, .int t0)]) [1, 2, 3, 4, 5, 6, 7, 8, 0] dX1_composeCluster_86 (by decide) rfl ?_
  refine tr_iload (i := 8) dX1_composeCluster_88 rfl ?_
  refine tr_ifeq (o := none) (tgt := 97) dX1_composeCluster_90 (by decide) ?_ ?_
  · refine tr_aload_n (i := 0) dX1_composeCluster_97 rfl ?_
    refine tr_getR 1 h0 fl_X1_9 (by decide +kernel) dX1_composeCluster_98 ?_
    refine tr_iload_n (i := 3) dX1_composeCluster_101 rfl ?_
    refine tr_iload (i := 7) dX1_composeCluster_102 rfl ?_
    refine tr_iload_n (i := 2) dX1_composeCluster_104 rfl ?_
    refine tr_c_i (ms_cV (rest := []) (al := [.int l3, .int l7, .int l2]) 6 (sp_X6_findMade G hG (d - 1) (by omega) σ (ms_rf l0 0) l3 l7 l2 (rk_1_0 h0)) (rk_1_0 h0) (by decide +kernel) kl_X1_99 fv_X6_findMade dX1_composeCluster_105 (show _ = some 3 by decide +kernel) (by omega) (Nat.le_of_ble_eq_true rfl) (by decide) (by decide)) (fun v5 => ?_)
    refine tr_weak [0, 1, 2, 3, 4, 5, 6, 7] (lv' := [(0, .ref l0), (1, .int l1), (2, .int l2), (3, .int l3), (4, .int l4), (5, .int l5), (6, .int l6), (7, .int l7)]) rfl ?_
    exact t_X1_composeCluster_108 G hG d hd k41 hk41 σ l0 l1 l2 l3 l4 l5 l6 l7 v5 h0
  · refine tr_iconst (v := (-1)) dX1_composeCluster_93 (by decide +kernel) ?_
    refine tr_goto (tgt := 108) dX1_composeCluster_94 (by decide) ?_
    refine tr_weak [0, 1, 2, 3, 4, 5, 6, 7] (lv' := [(0, .ref l0), (1, .int l1), (2, .int l2), (3, .int l3), (4, .int l4), (5, .int l5), (6, .int l6), (7, .int l7)]) rfl ?_
    exact t_X1_composeCluster_108 G hG d hd k41 hk41 σ l0 l1 l2 l3 l4 l5 l6 l7 (-1) h0
set_option maxRecDepth 100000 in
theorem t_X1_composeCluster_81 (G : MG) (hG : (g_l G).stackTraces = false) (d : Nat) (hd : 3 ≤ d)   (k41 : MsSt → Nat → Int32 → Int32 → Int32 → Int32 → Int32 → Int32 → Option (MsSt)) (hk41 : ∀ (s : MsSt) (x1 : Nat) (x2 : Int32) (x3 : Int32) (x4 : Int32) (x5 : Int32) (x6 : Int32) (x7 : Int32), ms_kd x1 = 2 → TrO G mX1_composeCluster d 0 0 0 0 ms_wv 41 [(0, .ref x1), (1, .int x2), (2, .int x3), (3, .int x4), (4, .int x5), (5, .int x6), (6, .int x7)] [] s (k41 s x1 x2 x3 x4 x5 x6 x7)) (σ : MsSt) (l0 : Nat) (l1 : Int32) (l2 : Int32) (l3 : Int32) (l4 : Int32) (l5 : Int32) (l6 : Int32) (l7 : Int32) (h0 : ms_kd l0 = 2) : TrO G mX1_composeCluster d 0 0 0 0 ms_wv 81 [(0, .ref l0), (1, .int l1), (2, .int l2), (3, .int l3), (4, .int l4), (5, .int l5), (6, .int l6), (7, .int l7)] [] σ (f_X1_composeCluster_81 k41 σ l0 l1 l2 l3 l4 l5 l6 l7) := by
  show TrO G mX1_composeCluster d 0 0 0 0 ms_wv 81 [(0, .ref l0), (1, .int l1), (2, .int l2), (3, .int l3), (4, .int l4), (5, .int l5), (6, .int l6), (7, .int l7)] [] σ (f_X1_composeCluster_86 k41 σ l0 l1 l2 l3 l4 l5 l6 l7 1)
  refine tr_iconst (v := 1) dX1_composeCluster_81 (by decide +kernel) ?_
  refine tr_goto (tgt := 86) dX1_composeCluster_82 (by decide) ?_
  exact t_X1_composeCluster_86 G hG d hd k41 hk41 σ l0 l1 l2 l3 l4 l5 l6 l7 1 h0
set_option maxRecDepth 100000 in
theorem t_X1_composeCluster_41 (G : MG) (hG : (g_l G).stackTraces = false) (d : Nat) (hd : 3 ≤ d)    : ∀ (n : Nat) (σ : MsSt) (l0 : Nat) (l1 : Int32) (l2 : Int32) (l3 : Int32) (l4 : Int32) (l5 : Int32) (l6 : Int32) (h0 : ms_kd l0 = 2), TrO G mX1_composeCluster d 0 0 0 0 ms_wv 41 [(0, .ref l0), (1, .int l1), (2, .int l2), (3, .int l3), (4, .int l4), (5, .int l5), (6, .int l6)] [] σ (f_X1_composeCluster_41 n σ l0 l1 l2 l3 l4 l5 l6) := by
  intro n
  induction n with
  | zero => exact fun _ _ _ _ _ _ _ _ _ => tr_none
  | succ n ih =>
    intro σ l0 l1 l2 l3 l4 l5 l6 h0
    show TrO G mX1_composeCluster d 0 0 0 0 ms_wv 41 [(0, .ref l0), (1, .int l1), (2, .int l2), (3, .int l3), (4, .int l4), (5, .int l5), (6, .int l6)] [] σ ((f_X1_endOf σ l0 l1).bind fun v3 => if l6 < v3 then (f_X5_get σ (ms_rf l0 2) l6).bind fun v4 => if l3 = (-1) then f_X1_composeCluster_81 (f_X1_composeCluster_41 n) σ l0 l1 l2 l3 l4 l5 l6 v4 else (f_X6_classOf σ (ms_rf l0 0) v4).bind fun v9 => if v9 = l5 then f_X1_composeCluster_81 (f_X1_composeCluster_41 n) σ l0 l1 l2 l3 l4 l5 l6 v4 else f_X1_composeCluster_86 (f_X1_composeCluster_41 n) σ l0 l1 l2 l3 l4 l5 l6 v4 0 else some σ)
    refine tr_iload (i := 6) dX1_composeCluster_41 rfl ?_
    refine tr_aload_n (i := 0) dX1_composeCluster_43 rfl ?_
    refine tr_iload_n (i := 1) dX1_composeCluster_44 rfl ?_
    refine tr_c_i (ms_cV (rest := [.int l6]) (al := [.int l1]) 1 (sp_X1_endOf G hG (d - 1) (by omega) σ l0 l1 h0) h0 (by decide +kernel) kl_X1_96 fv_X1_endOf dX1_composeCluster_45 (show _ = some 1 by decide +kernel) (by omega) (Nat.le_of_ble_eq_true rfl) (by decide) (by decide)) (fun v3 => ?_)
    refine tr_icge (o := none) (tgt := 159) dX1_composeCluster_48 (by decide) ?_ ?_
    · exact tr_vret rfl rfl (by decide) (by decide) dX1_composeCluster_159
    · refine tr_aload_n (i := 0) dX1_composeCluster_51 rfl ?_
      refine tr_getR 1 h0 fl_X1_24 (by decide +kernel) dX1_composeCluster_52 ?_
      refine tr_iload (i := 6) dX1_composeCluster_55 rfl ?_
      refine tr_c_i (ms_cV (rest := []) (al := [.int l6]) 5 (sp_X5_get G hG (d - 1) (by omega) σ (ms_rf l0 2) l6 (rk_1_2 h0)) (rk_1_2 h0) (by decide +kernel) kl_X1_66 fv_X5_get dX1_composeCluster_57 (show _ = some 1 by decide +kernel) (by omega) (Nat.le_of_ble_eq_true rfl) (by decide) (by decide)) (fun v4 => ?_)
      refine tr_istore (lv' := [(0, .ref l0), (1, .int l1), (2, .int l2), (3, .int l3), (4, .int l4), (5, .int l5), (6, .int l6), (7, .int v4)]) [1, 2, 3, 4, 5, 6, 7, 0] dX1_composeCluster_60 (by decide) rfl ?_
      refine tr_iload_n (i := 3) dX1_composeCluster_62 rfl ?_
      refine tr_iconst (v := (-1)) dX1_composeCluster_63 (by decide +kernel) ?_
      refine tr_iceq (o := none) (tgt := 81) dX1_composeCluster_64 (by decide) ?_ ?_
      · exact t_X1_composeCluster_81 G hG d hd (f_X1_composeCluster_41 n) (fun s y0 y1 y2 y3 y4 y5 y6 g0 => ih s y0 y1 y2 y3 y4 y5 y6 g0) σ l0 l1 l2 l3 l4 l5 l6 v4 h0
      · refine tr_aload_n (i := 0) dX1_composeCluster_67 rfl ?_
        refine tr_getR 1 h0 fl_X1_9 (by decide +kernel) dX1_composeCluster_68 ?_
        refine tr_iload (i := 7) dX1_composeCluster_71 rfl ?_
        refine tr_c_i (ms_cV (rest := []) (al := [.int v4]) 6 (sp_X6_classOf G hG (d - 1) (by omega) σ (ms_rf l0 0) v4 (rk_1_0 h0)) (rk_1_0 h0) (by decide +kernel) kl_X1_87 fv_X6_classOf dX1_composeCluster_73 (show _ = some 1 by decide +kernel) (by omega) (Nat.le_of_ble_eq_true rfl) (by decide) (by decide)) (fun v9 => ?_)
        refine tr_iload (i := 5) dX1_composeCluster_76 rfl ?_
        refine tr_icne (o := none) (tgt := 85) dX1_composeCluster_78 (by decide) ?_ ?_
        · refine tr_iconst (v := 0) dX1_composeCluster_85 (by decide +kernel) ?_
          exact t_X1_composeCluster_86 G hG d hd (f_X1_composeCluster_41 n) (fun s y0 y1 y2 y3 y4 y5 y6 g0 => ih s y0 y1 y2 y3 y4 y5 y6 g0) σ l0 l1 l2 l3 l4 l5 l6 v4 0 h0
        · exact t_X1_composeCluster_81 G hG d hd (f_X1_composeCluster_41 n) (fun s y0 y1 y2 y3 y4 y5 y6 g0 => ih s y0 y1 y2 y3 y4 y5 y6 g0) σ l0 l1 l2 l3 l4 l5 l6 v4 h0
set_option maxRecDepth 100000 in
theorem sp_X1_composeCluster (G : MG) (hG : (g_l G).stackTraces = false) (d : Nat) (hd : 3 ≤ d)   (σ : MsSt) (l0 : Nat) (l1 : Int32) (l2 : Int32) (h0 : ms_kd l0 = 2) : MsSpec G mX1_composeCluster d 0 0 [.ref l0, .int l1, .int l2] σ ms_wv (f_X1_composeCluster σ l0 l1 l2) := by
  refine ms_start (by decide +kernel) rfl rfl (Nat.le_of_ble_eq_true rfl) ?_
  show TrO G mX1_composeCluster d 0 0 0 0 ms_wv 0 [(0, .ref l0), (1, .int l1), (2, .int l2)] [] σ ((f_X5_get σ (ms_rf l0 5) l1).bind fun v1 => if v1 = (-1) then (f_X1_firstMark σ l0 l1).bind fun v2 => f_X1_composeCluster_41 ms_fuel σ l0 l1 l2 v1 (ms_i σ (ms_rf l0 3) 1) 0 v2 else (f_X5_add σ (ms_rf l0 3) v1).bind fun s10 => (f_X1_firstMark s10 l0 l1).bind fun v11 => f_X1_composeCluster_41 ms_fuel s10 l0 l1 l2 v1 (ms_i σ (ms_rf l0 3) 1) 0 v11)
  refine tr_aload_n (i := 0) dX1_composeCluster_0 rfl ?_
  refine tr_getR 1 h0 fl_X1_33 (by decide +kernel) dX1_composeCluster_1 ?_
  refine tr_iload_n (i := 1) dX1_composeCluster_4 rfl ?_
  refine tr_c_i (ms_cV (rest := []) (al := [.int l1]) 5 (sp_X5_get G hG (d - 1) (by omega) σ (ms_rf l0 5) l1 (rk_1_5 h0)) (rk_1_5 h0) (by decide +kernel) kl_X1_66 fv_X5_get dX1_composeCluster_5 (show _ = some 1 by decide +kernel) (by omega) (Nat.le_of_ble_eq_true rfl) (by decide) (by decide)) (fun v1 => ?_)
  refine tr_istore_n (lv' := [(0, .ref l0), (1, .int l1), (2, .int l2), (3, .int v1)]) [1, 2, 3, 0] dX1_composeCluster_8 (by decide) rfl ?_
  refine tr_aload_n (i := 0) dX1_composeCluster_9 rfl ?_
  refine tr_getR 1 h0 fl_X1_27 (by decide +kernel) dX1_composeCluster_10 ?_
  refine tr_getI 5 (rk_1_3 h0) fl_X1_46 (by decide +kernel) dX1_composeCluster_13 ?_
  refine tr_istore (lv' := [(0, .ref l0), (1, .int l1), (2, .int l2), (3, .int v1), (4, .int (ms_i σ (ms_rf l0 3) 1))]) [1, 2, 3, 4, 0] dX1_composeCluster_16 (by decide) rfl ?_
  refine tr_iload_n (i := 3) dX1_composeCluster_18 rfl ?_
  refine tr_iconst (v := (-1)) dX1_composeCluster_19 (by decide +kernel) ?_
  refine tr_iceq (o := none) (tgt := 31) dX1_composeCluster_20 (by decide) ?_ ?_
  · refine tr_iconst (v := 0) dX1_composeCluster_31 (by decide +kernel) ?_
    refine tr_istore (lv' := [(0, .ref l0), (1, .int l1), (2, .int l2), (3, .int v1), (4, .int (ms_i σ (ms_rf l0 3) 1)), (5, .int 0)]) [1, 2, 3, 4, 5, 0] dX1_composeCluster_32 (by decide) rfl ?_
    refine tr_aload_n (i := 0) dX1_composeCluster_34 rfl ?_
    refine tr_iload_n (i := 1) dX1_composeCluster_35 rfl ?_
    refine tr_c_i (ms_cV (rest := []) (al := [.int l1]) 1 (sp_X1_firstMark G hG (d - 1) (by omega) σ l0 l1 h0) h0 (by decide +kernel) kl_X1_93 fv_X1_firstMark dX1_composeCluster_36 (show _ = some 1 by decide +kernel) (by omega) (Nat.le_of_ble_eq_true rfl) (by decide) (by decide)) (fun v2 => ?_)
    refine tr_istore (lv' := [(0, .ref l0), (1, .int l1), (2, .int l2), (3, .int v1), (4, .int (ms_i σ (ms_rf l0 3) 1)), (5, .int 0), (6, .int v2)]) [1, 2, 3, 4, 5, 6, 0] dX1_composeCluster_39 (by decide) rfl ?_
    exact t_X1_composeCluster_41 G hG d hd ms_fuel σ l0 l1 l2 v1 (ms_i σ (ms_rf l0 3) 1) 0 v2 h0
  · refine tr_aload_n (i := 0) dX1_composeCluster_23 rfl ?_
    refine tr_getR 1 h0 fl_X1_27 (by decide +kernel) dX1_composeCluster_24 ?_
    refine tr_iload_n (i := 3) dX1_composeCluster_27 rfl ?_
    refine tr_c_wv (ms_cV (rest := []) (al := [.int v1]) 5 (sp_X5_add G hG (d - 1) (by omega) σ (ms_rf l0 3) v1 (rk_1_3 h0)) (rk_1_3 h0) (by decide +kernel) kl_X1_63 fv_X5_add dX1_composeCluster_28 (show _ = some 1 by decide +kernel) (by omega) (Nat.le_of_ble_eq_true rfl) (by decide) (by decide)) (fun s10 => ?_)
    refine tr_iconst (v := 0) dX1_composeCluster_31 (by decide +kernel) ?_
    refine tr_istore (lv' := [(0, .ref l0), (1, .int l1), (2, .int l2), (3, .int v1), (4, .int (ms_i σ (ms_rf l0 3) 1)), (5, .int 0)]) [1, 2, 3, 4, 5, 0] dX1_composeCluster_32 (by decide) rfl ?_
    refine tr_aload_n (i := 0) dX1_composeCluster_34 rfl ?_
    refine tr_iload_n (i := 1) dX1_composeCluster_35 rfl ?_
    refine tr_c_i (ms_cV (rest := []) (al := [.int l1]) 1 (sp_X1_firstMark G hG (d - 1) (by omega) s10 l0 l1 h0) h0 (by decide +kernel) kl_X1_93 fv_X1_firstMark dX1_composeCluster_36 (show _ = some 1 by decide +kernel) (by omega) (Nat.le_of_ble_eq_true rfl) (by decide) (by decide)) (fun v11 => ?_)
    refine tr_istore (lv' := [(0, .ref l0), (1, .int l1), (2, .int l2), (3, .int v1), (4, .int (ms_i σ (ms_rf l0 3) 1)), (5, .int 0), (6, .int v11)]) [1, 2, 3, 4, 5, 6, 0] dX1_composeCluster_39 (by decide) rfl ?_
    exact t_X1_composeCluster_41 G hG d hd ms_fuel s10 l0 l1 l2 v1 (ms_i σ (ms_rf l0 3) 1) 0 v11 h0
theorem dX1_derive_0 : decode cX1_derive 0 = .ok (.aload_n 0, 1) := by decide +kernel
theorem dX1_derive_1 : decode cX1_derive 1 = .ok (.aload_n 1, 1) := by decide +kernel
theorem dX1_derive_2 : decode cX1_derive 2 = .ok (.invokevirtual 39, 3) := by decide +kernel
theorem dX1_derive_5 : decode cX1_derive 5 = .ok (.aload_n 0, 1) := by decide +kernel
theorem dX1_derive_6 : decode cX1_derive 6 = .ok (.getfield 24, 3) := by decide +kernel
theorem dX1_derive_9 : decode cX1_derive 9 = .ok (.aload_n 0, 1) := by decide +kernel
theorem dX1_derive_10 : decode cX1_derive 10 = .ok (.getfield 20, 3) := by decide +kernel
theorem dX1_derive_13 : decode cX1_derive 13 = .ok (.invokevirtual 43, 3) := by decide +kernel
theorem dX1_derive_16 : decode cX1_derive 16 = .ok (.iconst 1, 1) := by decide +kernel
theorem dX1_derive_17 : decode cX1_derive 17 = .ok (.istore_n 3, 1) := by decide +kernel
theorem dX1_derive_18 : decode cX1_derive 18 = .ok (.iload_n 3, 1) := by decide +kernel
theorem dX1_derive_19 : decode cX1_derive 19 = .ok (.aload_n 0, 1) := by decide +kernel
theorem dX1_derive_20 : decode cX1_derive 20 = .ok (.getfield 24, 3) := by decide +kernel
theorem dX1_derive_23 : decode cX1_derive 23 = .ok (.getfield 46, 3) := by decide +kernel
theorem dX1_derive_26 : decode cX1_derive 26 = .ok (.if_icmp .ge 14, 3) := by decide +kernel
theorem dX1_derive_29 : decode cX1_derive 29 = .ok (.aload_n 0, 1) := by decide +kernel
theorem dX1_derive_30 : decode cX1_derive 30 = .ok (.iload_n 3, 1) := by decide +kernel
theorem dX1_derive_31 : decode cX1_derive 31 = .ok (.invokevirtual 50, 3) := by decide +kernel
theorem dX1_derive_34 : decode cX1_derive 34 = .ok (.iinc 3 1, 3) := by decide +kernel
theorem dX1_derive_37 : decode cX1_derive 37 = .ok (.goto (-19), 3) := by decide +kernel
theorem dX1_derive_40 : decode cX1_derive 40 = .ok (.aload_n 0, 1) := by decide +kernel
theorem dX1_derive_41 : decode cX1_derive 41 = .ok (.invokevirtual 53, 3) := by decide +kernel
theorem dX1_derive_44 : decode cX1_derive 44 = .ok (.aload_n 0, 1) := by decide +kernel
theorem dX1_derive_45 : decode cX1_derive 45 = .ok (.getfield 27, 3) := by decide +kernel
theorem dX1_derive_48 : decode cX1_derive 48 = .ok (.invokevirtual 56, 3) := by decide +kernel
theorem dX1_derive_51 : decode cX1_derive 51 = .ok (.aload_n 0, 1) := by decide +kernel
theorem dX1_derive_52 : decode cX1_derive 52 = .ok (.getfield 36, 3) := by decide +kernel
theorem dX1_derive_55 : decode cX1_derive 55 = .ok (.invokevirtual 56, 3) := by decide +kernel
theorem dX1_derive_58 : decode cX1_derive 58 = .ok (.iconst 0, 1) := by decide +kernel
theorem dX1_derive_59 : decode cX1_derive 59 = .ok (.istore_n 3, 1) := by decide +kernel
theorem dX1_derive_60 : decode cX1_derive 60 = .ok (.iload_n 3, 1) := by decide +kernel
theorem dX1_derive_61 : decode cX1_derive 61 = .ok (.aload_n 0, 1) := by decide +kernel
theorem dX1_derive_62 : decode cX1_derive 62 = .ok (.getfield 30, 3) := by decide +kernel
theorem dX1_derive_65 : decode cX1_derive 65 = .ok (.getfield 46, 3) := by decide +kernel
theorem dX1_derive_68 : decode cX1_derive 68 = .ok (.if_icmp .ge 41, 3) := by decide +kernel
theorem dX1_derive_71 : decode cX1_derive 71 = .ok (.aload_n 0, 1) := by decide +kernel
theorem dX1_derive_72 : decode cX1_derive 72 = .ok (.getfield 27, 3) := by decide +kernel
theorem dX1_derive_75 : decode cX1_derive 75 = .ok (.getfield 46, 3) := by decide +kernel
theorem dX1_derive_78 : decode cX1_derive 78 = .ok (.istore 4, 2) := by decide +kernel
theorem dX1_derive_80 : decode cX1_derive 80 = .ok (.aload_n 0, 1) := by decide +kernel
theorem dX1_derive_81 : decode cX1_derive 81 = .ok (.iload_n 3, 1) := by decide +kernel
theorem dX1_derive_82 : decode cX1_derive 82 = .ok (.iload_n 2, 1) := by decide +kernel
theorem dX1_derive_83 : decode cX1_derive 83 = .ok (.invokevirtual 59, 3) := by decide +kernel
theorem dX1_derive_86 : decode cX1_derive 86 = .ok (.aload_n 0, 1) := by decide +kernel
theorem dX1_derive_87 : decode cX1_derive 87 = .ok (.getfield 36, 3) := by decide +kernel
theorem dX1_derive_90 : decode cX1_derive 90 = .ok (.aload_n 0, 1) := by decide +kernel
theorem dX1_derive_91 : decode cX1_derive 91 = .ok (.getfield 27, 3) := by decide +kernel
theorem dX1_derive_94 : decode cX1_derive 94 = .ok (.getfield 46, 3) := by decide +kernel
theorem dX1_derive_97 : decode cX1_derive 97 = .ok (.iload 4, 2) := by decide +kernel
theorem dX1_derive_99 : decode cX1_derive 99 = .ok (.isub, 1) := by decide +kernel
theorem dX1_derive_100 : decode cX1_derive 100 = .ok (.invokevirtual 63, 3) := by decide +kernel
theorem dX1_derive_103 : decode cX1_derive 103 = .ok (.iinc 3 1, 3) := by decide +kernel
theorem dX1_derive_106 : decode cX1_derive 106 = .ok (.goto (-46), 3) := by decide +kernel
theorem dX1_derive_109 : decode cX1_derive 109 = .ok (.return_, 1) := by decide +kernel
set_option maxRecDepth 100000 in
theorem t_X1_derive_60 (G : MG) (hG : (g_l G).stackTraces = false) (d : Nat) (hd : 4 ≤ d)    : ∀ (n : Nat) (σ : MsSt) (l0 : Nat) (l2 : Int32) (l3 : Int32) (h0 : ms_kd l0 = 2), TrO G mX1_derive d 0 0 0 0 ms_wv 60 [(0, .ref l0), (2, .int l2), (3, .int l3)] [] σ (f_X1_derive_60 n σ l0 l2 l3) := by
  intro n
  induction n with
  | zero => exact fun _ _ _ _ _ => tr_none
  | succ n ih =>
    intro σ l0 l2 l3 h0
    show TrO G mX1_derive d 0 0 0 0 ms_wv 60 [(0, .ref l0), (2, .int l2), (3, .int l3)] [] σ (if l3 < (ms_i σ (ms_rf l0 4) 1) then (f_X1_composeCluster σ l0 l3 l2).bind fun s6 => (f_X5_add s6 (ms_rf l0 6) ((ms_i s6 (ms_rf l0 3) 1) - (ms_i σ (ms_rf l0 3) 1))).bind fun s7 => (f_X1_derive_60 n) s7 l0 l2 (l3 + 1) else some σ)
    refine tr_iload_n (i := 2) dX1_derive_60 rfl ?_
    refine tr_aload_n (i := 0) dX1_derive_61 rfl ?_
    refine tr_getR 1 h0 fl_X1_30 (by decide +kernel) dX1_derive_62 ?_
    refine tr_getI 5 (rk_1_4 h0) fl_X1_46 (by decide +kernel) dX1_derive_65 ?_
    refine tr_icge (o := none) (tgt := 109) dX1_derive_68 (by decide) ?_ ?_
    · exact tr_vret rfl rfl (by decide) (by decide) dX1_derive_109
    · refine tr_aload_n (i := 0) dX1_derive_71 rfl ?_
      refine tr_getR 1 h0 fl_X1_27 (by decide +kernel) dX1_derive_72 ?_
      refine tr_getI 5 (rk_1_3 h0) fl_X1_46 (by decide +kernel) dX1_derive_75 ?_
      refine tr_istore (lv' := [(0, .ref l0), (2, .int l2), (3, .int l3), (4, .int (ms_i σ (ms_rf l0 3) 1))]) [1, 2, 3, 0] dX1_derive_78 (by decide) rfl ?_
      refine tr_aload_n (i := 0) dX1_derive_80 rfl ?_
      refine tr_iload_n (i := 2) dX1_derive_81 rfl ?_
      refine tr_iload_n (i := 1) dX1_derive_82 rfl ?_
      refine tr_c_wv (ms_cV (rest := []) (al := [.int l3, .int l2]) 1 (sp_X1_composeCluster G hG (d - 1) (by omega) σ l0 l3 l2 h0) h0 (by decide +kernel) kl_X1_59 fv_X1_composeCluster dX1_derive_83 (show _ = some 2 by decide +kernel) (by omega) (Nat.le_of_ble_eq_true rfl) (by decide) (by decide)) (fun s6 => ?_)
      refine tr_aload_n (i := 0) dX1_derive_86 rfl ?_
      refine tr_getR 1 h0 fl_X1_36 (by decide +kernel) dX1_derive_87 ?_
      refine tr_aload_n (i := 0) dX1_derive_90 rfl ?_
      refine tr_getR 1 h0 fl_X1_27 (by decide +kernel) dX1_derive_91 ?_
      refine tr_getI 5 (rk_1_3 h0) fl_X1_46 (by decide +kernel) dX1_derive_94 ?_
      refine tr_iload (i := 3) dX1_derive_97 rfl ?_
      refine tr_isub dX1_derive_99 ?_
      refine tr_c_wv (ms_cV (rest := []) (al := [.int ((ms_i s6 (ms_rf l0 3) 1) - (ms_i σ (ms_rf l0 3) 1))]) 5 (sp_X5_add G hG (d - 1) (by omega) s6 (ms_rf l0 6) ((ms_i s6 (ms_rf l0 3) 1) - (ms_i σ (ms_rf l0 3) 1)) (rk_1_6 h0)) (rk_1_6 h0) (by decide +kernel) kl_X1_63 fv_X5_add dX1_derive_100 (show _ = some 1 by decide +kernel) (by omega) (Nat.le_of_ble_eq_true rfl) (by decide) (by decide)) (fun s7 => ?_)
      refine tr_iinc (k := 2) (v := (l3 + 1)) (lv' := [(0, .ref l0), (2, .int l2), (3, .int (l3 + 1))]) [1, 2, 0] dX1_derive_103 rfl rfl (by decide) rfl ?_
      refine tr_goto (tgt := 60) dX1_derive_106 (by decide) ?_
      exact (fun s y0 y1 y2 g0 => ih s y0 y1 y2 g0) s7 l0 l2 (l3 + 1) h0
set_option maxRecDepth 100000 in
theorem t_X1_derive_18 (G : MG) (hG : (g_l G).stackTraces = false) (d : Nat) (hd : 4 ≤ d)    : ∀ (n : Nat) (σ : MsSt) (l0 : Nat) (l2 : Int32) (l3 : Int32) (h0 : ms_kd l0 = 2), TrO G mX1_derive d 0 0 0 0 ms_wv 18 [(0, .ref l0), (2, .int l2), (3, .int l3)] [] σ (f_X1_derive_18 n σ l0 l2 l3) := by
  intro n
  induction n with
  | zero => exact fun _ _ _ _ _ => tr_none
  | succ n ih =>
    intro σ l0 l2 l3 h0
    show TrO G mX1_derive d 0 0 0 0 ms_wv 18 [(0, .ref l0), (2, .int l2), (3, .int l3)] [] σ (if l3 < (ms_i σ (ms_rf l0 2) 1) then (f_X1_sinkMark σ l0 l3).bind fun s8 => (f_X1_derive_18 n) s8 l0 l2 (l3 + 1) else (f_X1_findClusters σ l0).bind fun s3 => (f_X5_clear s3 (ms_rf l0 3)).bind fun s4 => (f_X5_clear s4 (ms_rf l0 6)).bind fun s5 => f_X1_derive_60 ms_fuel s5 l0 l2 0)
    refine tr_iload_n (i := 2) dX1_derive_18 rfl ?_
    refine tr_aload_n (i := 0) dX1_derive_19 rfl ?_
    refine tr_getR 1 h0 fl_X1_24 (by decide +kernel) dX1_derive_20 ?_
    refine tr_getI 5 (rk_1_2 h0) fl_X1_46 (by decide +kernel) dX1_derive_23 ?_
    refine tr_icge (o := none) (tgt := 40) dX1_derive_26 (by decide) ?_ ?_
    · refine tr_aload_n (i := 0) dX1_derive_40 rfl ?_
      refine tr_c_wv (ms_cV (rest := []) (al := []) 1 (sp_X1_findClusters G hG (d - 1) (by omega) σ l0 h0) h0 (by decide +kernel) kl_X1_53 fv_X1_findClusters dX1_derive_41 (show _ = some 0 by decide +kernel) (by omega) (Nat.le_of_ble_eq_true rfl) (by decide) (by decide)) (fun s3 => ?_)
      refine tr_aload_n (i := 0) dX1_derive_44 rfl ?_
      refine tr_getR 1 h0 fl_X1_27 (by decide +kernel) dX1_derive_45 ?_
      refine tr_c_wv (ms_cV (rest := []) (al := []) 5 (sp_X5_clear G hG (d - 1) (by omega) s3 (ms_rf l0 3) (rk_1_3 h0)) (rk_1_3 h0) (by decide +kernel) kl_X1_56 fv_X5_clear dX1_derive_48 (show _ = some 0 by decide +kernel) (by omega) (Nat.le_of_ble_eq_true rfl) (by decide) (by decide)) (fun s4 => ?_)
      refine tr_aload_n (i := 0) dX1_derive_51 rfl ?_
      refine tr_getR 1 h0 fl_X1_36 (by decide +kernel) dX1_derive_52 ?_
      refine tr_c_wv (ms_cV (rest := []) (al := []) 5 (sp_X5_clear G hG (d - 1) (by omega) s4 (ms_rf l0 6) (rk_1_6 h0)) (rk_1_6 h0) (by decide +kernel) kl_X1_56 fv_X5_clear dX1_derive_55 (show _ = some 0 by decide +kernel) (by omega) (Nat.le_of_ble_eq_true rfl) (by decide) (by decide)) (fun s5 => ?_)
      refine tr_iconst (v := 0) dX1_derive_58 (by decide +kernel) ?_
      refine tr_istore_n (lv' := [(0, .ref l0), (2, .int l2), (3, .int 0)]) [1, 2, 0] dX1_derive_59 (by decide) rfl ?_
      exact t_X1_derive_60 G hG d hd ms_fuel s5 l0 l2 0 h0
    · refine tr_aload_n (i := 0) dX1_derive_29 rfl ?_
      refine tr_iload_n (i := 2) dX1_derive_30 rfl ?_
      refine tr_c_wv (ms_cV (rest := []) (al := [.int l3]) 1 (sp_X1_sinkMark G hG (d - 1) (by omega) σ l0 l3 h0) h0 (by decide +kernel) kl_X1_50 fv_X1_sinkMark dX1_derive_31 (show _ = some 1 by decide +kernel) (by omega) (Nat.le_of_ble_eq_true rfl) (by decide) (by decide)) (fun s8 => ?_)
      refine tr_iinc (k := 2) (v := (l3 + 1)) (lv' := [(0, .ref l0), (2, .int l2), (3, .int (l3 + 1))]) [1, 2, 0] dX1_derive_34 rfl rfl (by decide) rfl ?_
      refine tr_goto (tgt := 18) dX1_derive_37 (by decide) ?_
      exact (fun s y0 y1 y2 g0 => ih s y0 y1 y2 g0) s8 l0 l2 (l3 + 1) h0
set_option maxRecDepth 100000 in
theorem sp_X1_derive (G : MG) (hG : (g_l G).stackTraces = false) (d : Nat) (hd : 4 ≤ d)   (σ : MsSt) (l0 : Nat) (l1 : Nat) (l2 : Int32) (h0 : ms_kd l0 = 2) (h1 : ms_kd l1 = 6) : MsSpec G mX1_derive d 0 0 [.ref l0, .ref l1, .int l2] σ ms_wv (f_X1_derive σ l0 l1 l2) := by
  refine ms_start (by decide +kernel) rfl rfl (Nat.le_of_ble_eq_true rfl) ?_
  show TrO G mX1_derive d 0 0 0 0 ms_wv 0 [(0, .ref l0), (1, .ref l1), (2, .int l2)] [] σ ((f_X1_expandAll σ l0 l1).bind fun s1 => (f_X5_takeOver s1 (ms_rf l0 2) (ms_rf l0 1)).bind fun s2 => f_X1_derive_18 ms_fuel s2 l0 l2 1)
  refine tr_aload_n (i := 0) dX1_derive_0 rfl ?_
  refine tr_aload_n (i := 1) dX1_derive_1 rfl ?_
  refine tr_c_wv (ms_cV (rest := []) (al := [.ref l1]) 1 (sp_X1_expandAll G hG (d - 1) (by omega) σ l0 l1 h0 h1) h0 (by decide +kernel) kl_X1_39 fv_X1_expandAll dX1_derive_2 (show _ = some 1 by decide +kernel) (by omega) (Nat.le_of_ble_eq_true rfl) (by decide) (by decide)) (fun s1 => ?_)
  refine tr_aload_n (i := 0) dX1_derive_5 rfl ?_
  refine tr_getR 1 h0 fl_X1_24 (by decide +kernel) dX1_derive_6 ?_
  refine tr_aload_n (i := 0) dX1_derive_9 rfl ?_
  refine tr_getR 1 h0 fl_X1_20 (by decide +kernel) dX1_derive_10 ?_
  refine tr_c_wv (ms_cV (rest := []) (al := [.ref (ms_rf l0 1)]) 5 (sp_X5_takeOver G hG (d - 1) (by omega) s1 (ms_rf l0 2) (ms_rf l0 1) (rk_1_2 h0) (rk_1_1 h0)) (rk_1_2 h0) (by decide +kernel) kl_X1_43 fv_X5_takeOver dX1_derive_13 (show _ = some 1 by decide +kernel) (by omega) (Nat.le_of_ble_eq_true rfl) (by decide) (by decide)) (fun s2 => ?_)
  refine tr_iconst (v := 1) dX1_derive_16 (by decide +kernel) ?_
  refine tr_istore_n (lv' := [(0, .ref l0), (2, .int l2), (3, .int 1)]) [1, 3, 0] dX1_derive_17 (by decide) rfl ?_
  exact t_X1_derive_18 G hG d hd ms_fuel s2 l0 l2 1 h0
theorem dX1_marksIn_0 : decode cX1_marksIn 0 = .ok (.aload_n 0, 1) := by decide +kernel
theorem dX1_marksIn_1 : decode cX1_marksIn 1 = .ok (.iload_n 1, 1) := by decide +kernel
theorem dX1_marksIn_2 : decode cX1_marksIn 2 = .ok (.invokevirtual 96, 3) := by decide +kernel
theorem dX1_marksIn_5 : decode cX1_marksIn 5 = .ok (.aload_n 0, 1) := by decide +kernel
theorem dX1_marksIn_6 : decode cX1_marksIn 6 = .ok (.iload_n 1, 1) := by decide +kernel
theorem dX1_marksIn_7 : decode cX1_marksIn 7 = .ok (.invokevirtual 93, 3) := by decide +kernel
theorem dX1_marksIn_10 : decode cX1_marksIn 10 = .ok (.isub, 1) := by decide +kernel
theorem dX1_marksIn_11 : decode cX1_marksIn 11 = .ok (.ireturn, 1) := by decide +kernel
set_option maxRecDepth 100000 in
theorem sp_X1_marksIn (G : MG) (hG : (g_l G).stackTraces = false) (d : Nat) (hd : 2 ≤ d)   (σ : MsSt) (l0 : Nat) (l1 : Int32) (h0 : ms_kd l0 = 2) : MsSpec G mX1_marksIn d 0 0 [.ref l0, .int l1] σ (ms_ki σ) (f_X1_marksIn σ l0 l1) := by
  refine ms_start (by decide +kernel) rfl rfl (Nat.le_of_ble_eq_true rfl) ?_
  show TrO G mX1_marksIn d 0 0 0 0 (ms_ki σ) 0 [(0, .ref l0), (1, .int l1)] [] σ ((f_X1_endOf σ l0 l1).bind fun v1 => (f_X1_firstMark σ l0 l1).bind fun v2 => some (v1 - v2))
  refine tr_aload_n (i := 0) dX1_marksIn_0 rfl ?_
  refine tr_iload_n (i := 1) dX1_marksIn_1 rfl ?_
  refine tr_c_i (ms_cV (rest := []) (al := [.int l1]) 1 (sp_X1_endOf G hG (d - 1) (by omega) σ l0 l1 h0) h0 (by decide +kernel) kl_X1_96 fv_X1_endOf dX1_marksIn_2 (show _ = some 1 by decide +kernel) (by omega) (Nat.le_of_ble_eq_true rfl) (by decide) (by decide)) (fun v1 => ?_)
  refine tr_aload_n (i := 0) dX1_marksIn_5 rfl ?_
  refine tr_iload_n (i := 1) dX1_marksIn_6 rfl ?_
  refine tr_c_i (ms_cV (rest := [.int v1]) (al := [.int l1]) 1 (sp_X1_firstMark G hG (d - 1) (by omega) σ l0 l1 h0) h0 (by decide +kernel) kl_X1_93 fv_X1_firstMark dX1_marksIn_7 (show _ = some 1 by decide +kernel) (by omega) (Nat.le_of_ble_eq_true rfl) (by decide) (by decide)) (fun v2 => ?_)
  refine tr_isub dX1_marksIn_10 ?_
  exact tr_iret rfl rfl (by decide) (by decide) dX1_marksIn_11
theorem dX1_penOf_0 : decode cX1_penOf 0 = .ok (.iconst 0, 1) := by decide +kernel
theorem dX1_penOf_1 : decode cX1_penOf 1 = .ok (.istore_n 2, 1) := by decide +kernel
theorem dX1_penOf_2 : decode cX1_penOf 2 = .ok (.iconst 0, 1) := by decide +kernel
theorem dX1_penOf_3 : decode cX1_penOf 3 = .ok (.istore_n 3, 1) := by decide +kernel
theorem dX1_penOf_4 : decode cX1_penOf 4 = .ok (.iload_n 3, 1) := by decide +kernel
theorem dX1_penOf_5 : decode cX1_penOf 5 = .ok (.iload_n 1, 1) := by decide +kernel
theorem dX1_penOf_6 : decode cX1_penOf 6 = .ok (.if_icmp .ge 38, 3) := by decide +kernel
theorem dX1_penOf_9 : decode cX1_penOf 9 = .ok (.iload_n 3, 1) := by decide +kernel
theorem dX1_penOf_10 : decode cX1_penOf 10 = .ok (.aload_n 0, 1) := by decide +kernel
theorem dX1_penOf_11 : decode cX1_penOf 11 = .ok (.getfield 30, 3) := by decide +kernel
theorem dX1_penOf_14 : decode cX1_penOf 14 = .ok (.getfield 46, 3) := by decide +kernel
theorem dX1_penOf_17 : decode cX1_penOf 17 = .ok (.if_icmp .ge 27, 3) := by decide +kernel
theorem dX1_penOf_20 : decode cX1_penOf 20 = .ok (.iload_n 2, 1) := by decide +kernel
theorem dX1_penOf_21 : decode cX1_penOf 21 = .ok (.aload_n 0, 1) := by decide +kernel
theorem dX1_penOf_22 : decode cX1_penOf 22 = .ok (.getfield 9, 3) := by decide +kernel
theorem dX1_penOf_25 : decode cX1_penOf 25 = .ok (.aload_n 0, 1) := by decide +kernel
theorem dX1_penOf_26 : decode cX1_penOf 26 = .ok (.getfield 33, 3) := by decide +kernel
theorem dX1_penOf_29 : decode cX1_penOf 29 = .ok (.iload_n 3, 1) := by decide +kernel
theorem dX1_penOf_30 : decode cX1_penOf 30 = .ok (.invokevirtual 66, 3) := by decide +kernel
theorem dX1_penOf_33 : decode cX1_penOf 33 = .ok (.invokevirtual 103, 3) := by decide +kernel
theorem dX1_penOf_36 : decode cX1_penOf 36 = .ok (.iadd, 1) := by decide +kernel
theorem dX1_penOf_37 : decode cX1_penOf 37 = .ok (.istore_n 2, 1) := by decide +kernel
theorem dX1_penOf_38 : decode cX1_penOf 38 = .ok (.iinc 3 1, 3) := by decide +kernel
theorem dX1_penOf_41 : decode cX1_penOf 41 = .ok (.goto (-37), 3) := by decide +kernel
theorem dX1_penOf_44 : decode cX1_penOf 44 = .ok (.iload_n 2, 1) := by decide +kernel
theorem dX1_penOf_45 : decode cX1_penOf 45 = .ok (.ireturn, 1) := by decide +kernel
set_option maxRecDepth 100000 in
theorem t_X1_penOf_4 (G : MG) (hG : (g_l G).stackTraces = false) (d : Nat) (hd : 2 ≤ d)   (σ : MsSt)  : ∀ (n : Nat) (l0 : Nat) (l1 : Int32) (l2 : Int32) (l3 : Int32) (h0 : ms_kd l0 = 2), TrO G mX1_penOf d 0 0 0 0 (ms_ki σ) 4 [(0, .ref l0), (1, .int l1), (2, .int l2), (3, .int l3)] [] σ (f_X1_penOf_4 σ n l0 l1 l2 l3) := by
  intro n
  induction n with
  | zero => exact fun _ _ _ _ _ => tr_none
  | succ n ih =>
    intro l0 l1 l2 l3 h0
    show TrO G mX1_penOf d 0 0 0 0 (ms_ki σ) 4 [(0, .ref l0), (1, .int l1), (2, .int l2), (3, .int l3)] [] σ (if l3 < l1 then if l3 < (ms_i σ (ms_rf l0 4) 1) then (f_X5_get σ (ms_rf l0 5) l3).bind fun v1 => (f_X6_widthOf σ (ms_rf l0 0) v1).bind fun v2 => (f_X1_penOf_4 σ n) l0 l1 (l2 + v2) (l3 + 1) else some l2 else some l2)
    refine tr_iload_n (i := 3) dX1_penOf_4 rfl ?_
    refine tr_iload_n (i := 1) dX1_penOf_5 rfl ?_
    refine tr_icge (o := none) (tgt := 44) dX1_penOf_6 (by decide) ?_ ?_
    · refine tr_iload_n (i := 2) dX1_penOf_44 rfl ?_
      exact tr_iret rfl rfl (by decide) (by decide) dX1_penOf_45
    · refine tr_iload_n (i := 3) dX1_penOf_9 rfl ?_
      refine tr_aload_n (i := 0) dX1_penOf_10 rfl ?_
      refine tr_getR 1 h0 fl_X1_30 (by decide +kernel) dX1_penOf_11 ?_
      refine tr_getI 5 (rk_1_4 h0) fl_X1_46 (by decide +kernel) dX1_penOf_14 ?_
      refine tr_icge (o := none) (tgt := 44) dX1_penOf_17 (by decide) ?_ ?_
      · refine tr_iload_n (i := 2) dX1_penOf_44 rfl ?_
        exact tr_iret rfl rfl (by decide) (by decide) dX1_penOf_45
      · refine tr_iload_n (i := 2) dX1_penOf_20 rfl ?_
        refine tr_aload_n (i := 0) dX1_penOf_21 rfl ?_
        refine tr_getR 1 h0 fl_X1_9 (by decide +kernel) dX1_penOf_22 ?_
        refine tr_aload_n (i := 0) dX1_penOf_25 rfl ?_
        refine tr_getR 1 h0 fl_X1_33 (by decide +kernel) dX1_penOf_26 ?_
        refine tr_iload_n (i := 3) dX1_penOf_29 rfl ?_
        refine tr_c_i (ms_cV (rest := [.ref (ms_rf l0 0), .int l2]) (al := [.int l3]) 5 (sp_X5_get G hG (d - 1) (by omega) σ (ms_rf l0 5) l3 (rk_1_5 h0)) (rk_1_5 h0) (by decide +kernel) kl_X1_66 fv_X5_get dX1_penOf_30 (show _ = some 1 by decide +kernel) (by omega) (Nat.le_of_ble_eq_true rfl) (by decide) (by decide)) (fun v1 => ?_)
        refine tr_c_i (ms_cV (rest := [.int l2]) (al := [.int v1]) 6 (sp_X6_widthOf G hG (d - 1) (by omega) σ (ms_rf l0 0) v1 (rk_1_0 h0)) (rk_1_0 h0) (by decide +kernel) kl_X1_103 fv_X6_widthOf dX1_penOf_33 (show _ = some 1 by decide +kernel) (by omega) (Nat.le_of_ble_eq_true rfl) (by decide) (by decide)) (fun v2 => ?_)
        refine tr_iadd dX1_penOf_36 ?_
        refine tr_istore_n (lv' := [(0, .ref l0), (1, .int l1), (2, .int (l2 + v2)), (3, .int l3)]) [1, 2, 0, 3] dX1_penOf_37 (by decide) rfl ?_
        refine tr_iinc (k := 3) (v := (l3 + 1)) (lv' := [(0, .ref l0), (1, .int l1), (2, .int (l2 + v2)), (3, .int (l3 + 1))]) [1, 2, 3, 0] dX1_penOf_38 rfl rfl (by decide) rfl ?_
        refine tr_goto (tgt := 4) dX1_penOf_41 (by decide) ?_
        exact (fun y0 y1 y2 y3 g0 => ih y0 y1 y2 y3 g0) l0 l1 (l2 + v2) (l3 + 1) h0
set_option maxRecDepth 100000 in
theorem sp_X1_penOf (G : MG) (hG : (g_l G).stackTraces = false) (d : Nat) (hd : 2 ≤ d)   (σ : MsSt) (l0 : Nat) (l1 : Int32) (h0 : ms_kd l0 = 2) : MsSpec G mX1_penOf d 0 0 [.ref l0, .int l1] σ (ms_ki σ) (f_X1_penOf σ l0 l1) := by
  refine ms_start (by decide +kernel) rfl rfl (Nat.le_of_ble_eq_true rfl) ?_
  show TrO G mX1_penOf d 0 0 0 0 (ms_ki σ) 0 [(0, .ref l0), (1, .int l1)] [] σ (f_X1_penOf_4 σ ms_fuel l0 l1 0 0)
  refine tr_iconst (v := 0) dX1_penOf_0 (by decide +kernel) ?_
  refine tr_istore_n (lv' := [(0, .ref l0), (1, .int l1), (2, .int 0)]) [1, 2, 0] dX1_penOf_1 (by decide) rfl ?_
  refine tr_iconst (v := 0) dX1_penOf_2 (by decide +kernel) ?_
  refine tr_istore_n (lv' := [(0, .ref l0), (1, .int l1), (2, .int 0), (3, .int 0)]) [1, 2, 3, 0] dX1_penOf_3 (by decide) rfl ?_
  exact t_X1_penOf_4 G hG d hd σ ms_fuel l0 l1 0 0 h0
theorem dX1_classWith_0 : decode cX1_classWith 0 = .ok (.iload_n 1, 1) := by decide +kernel
theorem dX1_classWith_1 : decode cX1_classWith 1 = .ok (.iload_n 2, 1) := by decide +kernel
theorem dX1_classWith_2 : decode cX1_classWith 2 = .ok (.if_icmp .ne 7, 3) := by decide +kernel
theorem dX1_classWith_5 : decode cX1_classWith 5 = .ok (.iload_n 3, 1) := by decide +kernel
theorem dX1_classWith_6 : decode cX1_classWith 6 = .ok (.goto 11, 3) := by decide +kernel
theorem dX1_classWith_9 : decode cX1_classWith 9 = .ok (.aload_n 0, 1) := by decide +kernel
theorem dX1_classWith_10 : decode cX1_classWith 10 = .ok (.getfield 9, 3) := by decide +kernel
theorem dX1_classWith_13 : decode cX1_classWith 13 = .ok (.iload_n 1, 1) := by decide +kernel
theorem dX1_classWith_14 : decode cX1_classWith 14 = .ok (.invokevirtual 87, 3) := by decide +kernel
theorem dX1_classWith_17 : decode cX1_classWith 17 = .ok (.ireturn, 1) := by decide +kernel
set_option maxRecDepth 100000 in
theorem sp_X1_classWith (G : MG) (hG : (g_l G).stackTraces = false) (d : Nat) (hd : 2 ≤ d)   (σ : MsSt) (l0 : Nat) (l1 : Int32) (l2 : Int32) (l3 : Int32) (h0 : ms_kd l0 = 2) : MsSpec G mX1_classWith d 0 0 [.ref l0, .int l1, .int l2, .int l3] σ (ms_ki σ) (f_X1_classWith σ l0 l1 l2 l3) := by
  refine ms_start (by decide +kernel) rfl rfl (Nat.le_of_ble_eq_true rfl) ?_
  show TrO G mX1_classWith d 0 0 0 0 (ms_ki σ) 0 [(0, .ref l0), (1, .int l1), (2, .int l2), (3, .int l3)] [] σ (if l1 = l2 then some l3 else (f_X6_classOf σ (ms_rf l0 0) l1).bind fun v1 => some v1)
  refine tr_iload_n (i := 1) dX1_classWith_0 rfl ?_
  refine tr_iload_n (i := 2) dX1_classWith_1 rfl ?_
  refine tr_icne (o := none) (tgt := 9) dX1_classWith_2 (by decide) ?_ ?_
  · refine tr_aload_n (i := 0) dX1_classWith_9 rfl ?_
    refine tr_getR 1 h0 fl_X1_9 (by decide +kernel) dX1_classWith_10 ?_
    refine tr_iload_n (i := 1) dX1_classWith_13 rfl ?_
    refine tr_c_i (ms_cV (rest := []) (al := [.int l1]) 6 (sp_X6_classOf G hG (d - 1) (by omega) σ (ms_rf l0 0) l1 (rk_1_0 h0)) (rk_1_0 h0) (by decide +kernel) kl_X1_87 fv_X6_classOf dX1_classWith_14 (show _ = some 1 by decide +kernel) (by omega) (Nat.le_of_ble_eq_true rfl) (by decide) (by decide)) (fun v1 => ?_)
    exact tr_iret rfl rfl (by decide) (by decide) dX1_classWith_17
  · refine tr_iload_n (i := 3) dX1_classWith_5 rfl ?_
    refine tr_goto (tgt := 17) dX1_classWith_6 (by decide) ?_
    exact tr_iret rfl rfl (by decide) (by decide) dX1_classWith_17
theorem dX1_countPassed_0 : decode cX1_countPassed 0 = .ok (.aload_n 0, 1) := by decide +kernel
theorem dX1_countPassed_1 : decode cX1_countPassed 1 = .ok (.aload_n 0, 1) := by decide +kernel
theorem dX1_countPassed_2 : decode cX1_countPassed 2 = .ok (.getfield 20, 3) := by decide +kernel
theorem dX1_countPassed_5 : decode cX1_countPassed 5 = .ok (.iload_n 1, 1) := by decide +kernel
theorem dX1_countPassed_6 : decode cX1_countPassed 6 = .ok (.invokevirtual 66, 3) := by decide +kernel
theorem dX1_countPassed_9 : decode cX1_countPassed 9 = .ok (.iload_n 2, 1) := by decide +kernel
theorem dX1_countPassed_10 : decode cX1_countPassed 10 = .ok (.iload_n 3, 1) := by decide +kernel
theorem dX1_countPassed_11 : decode cX1_countPassed 11 = .ok (.invokevirtual 109, 3) := by decide +kernel
theorem dX1_countPassed_14 : decode cX1_countPassed 14 = .ok (.istore 4, 2) := by decide +kernel
theorem dX1_countPassed_16 : decode cX1_countPassed 16 = .ok (.iconst 0, 1) := by decide +kernel
theorem dX1_countPassed_17 : decode cX1_countPassed 17 = .ok (.istore 5, 2) := by decide +kernel
theorem dX1_countPassed_19 : decode cX1_countPassed 19 = .ok (.iload_n 1, 1) := by decide +kernel
theorem dX1_countPassed_20 : decode cX1_countPassed 20 = .ok (.iconst 1, 1) := by decide +kernel
theorem dX1_countPassed_21 : decode cX1_countPassed 21 = .ok (.isub, 1) := by decide +kernel
theorem dX1_countPassed_22 : decode cX1_countPassed 22 = .ok (.istore 6, 2) := by decide +kernel
theorem dX1_countPassed_24 : decode cX1_countPassed 24 = .ok (.iload 6, 2) := by decide +kernel
theorem dX1_countPassed_26 : decode cX1_countPassed 26 = .ok (.ifCond .lt 49, 3) := by decide +kernel
theorem dX1_countPassed_29 : decode cX1_countPassed 29 = .ok (.iload 4, 2) := by decide +kernel
theorem dX1_countPassed_31 : decode cX1_countPassed 31 = .ok (.ifCond .le 44, 3) := by decide +kernel
theorem dX1_countPassed_34 : decode cX1_countPassed 34 = .ok (.aload_n 0, 1) := by decide +kernel
theorem dX1_countPassed_35 : decode cX1_countPassed 35 = .ok (.aload_n 0, 1) := by decide +kernel
theorem dX1_countPassed_36 : decode cX1_countPassed 36 = .ok (.getfield 20, 3) := by decide +kernel
theorem dX1_countPassed_39 : decode cX1_countPassed 39 = .ok (.iload 6, 2) := by decide +kernel
theorem dX1_countPassed_41 : decode cX1_countPassed 41 = .ok (.invokevirtual 66, 3) := by decide +kernel
theorem dX1_countPassed_44 : decode cX1_countPassed 44 = .ok (.iload_n 2, 1) := by decide +kernel
theorem dX1_countPassed_45 : decode cX1_countPassed 45 = .ok (.iload_n 3, 1) := by decide +kernel
theorem dX1_countPassed_46 : decode cX1_countPassed 46 = .ok (.invokevirtual 109, 3) := by decide +kernel
theorem dX1_countPassed_49 : decode cX1_countPassed 49 = .ok (.istore 7, 2) := by decide +kernel
theorem dX1_countPassed_51 : decode cX1_countPassed 51 = .ok (.iload 7, 2) := by decide +kernel
theorem dX1_countPassed_53 : decode cX1_countPassed 53 = .ok (.ifCond .ne 6, 3) := by decide +kernel
theorem dX1_countPassed_56 : decode cX1_countPassed 56 = .ok (.goto 19, 3) := by decide +kernel
theorem dX1_countPassed_59 : decode cX1_countPassed 59 = .ok (.iload 7, 2) := by decide +kernel
theorem dX1_countPassed_61 : decode cX1_countPassed 61 = .ok (.iload 4, 2) := by decide +kernel
theorem dX1_countPassed_63 : decode cX1_countPassed 63 = .ok (.if_icmp .le 6, 3) := by decide +kernel
theorem dX1_countPassed_66 : decode cX1_countPassed 66 = .ok (.iinc 5 1, 3) := by decide +kernel
theorem dX1_countPassed_69 : decode cX1_countPassed 69 = .ok (.iinc 6 (-1), 3) := by decide +kernel
theorem dX1_countPassed_72 : decode cX1_countPassed 72 = .ok (.goto (-48), 3) := by decide +kernel
theorem dX1_countPassed_75 : decode cX1_countPassed 75 = .ok (.iload 5, 2) := by decide +kernel
theorem dX1_countPassed_77 : decode cX1_countPassed 77 = .ok (.ireturn, 1) := by decide +kernel
set_option maxRecDepth 100000 in
theorem t_X1_countPassed_24 (G : MG) (hG : (g_l G).stackTraces = false) (d : Nat) (hd : 3 ≤ d)   (σ : MsSt)  : ∀ (n : Nat) (l0 : Nat) (l2 : Int32) (l3 : Int32) (l4 : Int32) (l5 : Int32) (l6 : Int32) (h0 : ms_kd l0 = 2), TrO G mX1_countPassed d 0 0 0 0 (ms_ki σ) 24 [(0, .ref l0), (2, .int l2), (3, .int l3), (4, .int l4), (5, .int l5), (6, .int l6)] [] σ (f_X1_countPassed_24 σ n l0 l2 l3 l4 l5 l6) := by
  intro n
  induction n with
  | zero => exact fun _ _ _ _ _ _ _ => tr_none
  | succ n ih =>
    intro l0 l2 l3 l4 l5 l6 h0
    show TrO G mX1_countPassed d 0 0 0 0 (ms_ki σ) 24 [(0, .ref l0), (2, .int l2), (3, .int l3), (4, .int l4), (5, .int l5), (6, .int l6)] [] σ (if l6 < 0 then some l5 else if 0 < l4 then (f_X5_get σ (ms_rf l0 1) l6).bind fun v3 => (f_X1_classWith σ l0 v3 l2 l3).bind fun v4 => if v4 = 0 then some l5 else if l4 < v4 then (f_X1_countPassed_24 σ n) l0 l2 l3 l4 (l5 + 1) (l6 + (-1)) else (f_X1_countPassed_24 σ n) l0 l2 l3 l4 l5 (l6 + (-1)) else some l5)
    refine tr_iload (i := 5) dX1_countPassed_24 rfl ?_
    refine tr_iflt (o := none) (tgt := 75) dX1_countPassed_26 (by decide) ?_ ?_
    · refine tr_iload (i := 4) dX1_countPassed_75 rfl ?_
      exact tr_iret rfl rfl (by decide) (by decide) dX1_countPassed_77
    · refine tr_iload (i := 3) dX1_countPassed_29 rfl ?_
      refine tr_ifle (o := none) (tgt := 75) dX1_countPassed_31 (by decide) ?_ ?_
      · refine tr_iload (i := 4) dX1_countPassed_75 rfl ?_
        exact tr_iret rfl rfl (by decide) (by decide) dX1_countPassed_77
      · refine tr_aload_n (i := 0) dX1_countPassed_34 rfl ?_
        refine tr_aload_n (i := 0) dX1_countPassed_35 rfl ?_
        refine tr_getR 1 h0 fl_X1_20 (by decide +kernel) dX1_countPassed_36 ?_
        refine tr_iload (i := 5) dX1_countPassed_39 rfl ?_
        refine tr_c_i (ms_cV (rest := [.ref l0]) (al := [.int l6]) 5 (sp_X5_get G hG (d - 1) (by omega) σ (ms_rf l0 1) l6 (rk_1_1 h0)) (rk_1_1 h0) (by decide +kernel) kl_X1_66 fv_X5_get dX1_countPassed_41 (show _ = some 1 by decide +kernel) (by omega) (Nat.le_of_ble_eq_true rfl) (by decide) (by decide)) (fun v3 => ?_)
        refine tr_iload_n (i := 1) dX1_countPassed_44 rfl ?_
        refine tr_iload_n (i := 2) dX1_countPassed_45 rfl ?_
        refine tr_c_i (ms_cV (rest := []) (al := [.int v3, .int l2, .int l3]) 1 (sp_X1_classWith G hG (d - 1) (by omega) σ l0 v3 l2 l3 h0) h0 (by decide +kernel) kl_X1_109 fv_X1_classWith dX1_countPassed_46 (show _ = some 3 by decide +kernel) (by omega) (Nat.le_of_ble_eq_true rfl) (by decide) (by decide)) (fun v4 => ?_)
        refine tr_istore (lv' := [(0, .ref l0), (2, .int l2), (3, .int l3), (4, .int l4), (5, .int l5), (6, .int l6), (7, .int v4)]) [1, 2, 3, 4, 5, 6, 0] dX1_countPassed_49 (by decide) rfl ?_
        refine tr_iload (i := 6) dX1_countPassed_51 rfl ?_
        refine tr_ifne (o := none) (tgt := 59) dX1_countPassed_53 (by decide) ?_ ?_
        · refine tr_iload (i := 6) dX1_countPassed_59 rfl ?_
          refine tr_iload (i := 3) dX1_countPassed_61 rfl ?_
          refine tr_icle (o := none) (tgt := 69) dX1_countPassed_63 (by decide) ?_ ?_
          · refine tr_iinc (k := 5) (v := (l6 + (-1))) (lv' := [(0, .ref l0), (2, .int l2), (3, .int l3), (4, .int l4), (5, .int l5), (6, .int (l6 + (-1)))]) [1, 2, 3, 4, 5, 0] dX1_countPassed_69 rfl rfl (by decide) rfl ?_
            refine tr_goto (tgt := 24) dX1_countPassed_72 (by decide) ?_
            exact (fun y0 y1 y2 y3 y4 y5 g0 => ih y0 y1 y2 y3 y4 y5 g0) l0 l2 l3 l4 l5 (l6 + (-1)) h0
          · refine tr_iinc (k := 4) (v := (l5 + 1)) (lv' := [(0, .ref l0), (2, .int l2), (3, .int l3), (4, .int l4), (5, .int (l5 + 1)), (6, .int l6)]) [1, 2, 3, 4, 0, 5] dX1_countPassed_66 rfl rfl (by decide) rfl ?_
            refine tr_iinc (k := 5) (v := (l6 + (-1))) (lv' := [(0, .ref l0), (2, .int l2), (3, .int l3), (4, .int l4), (5, .int (l5 + 1)), (6, .int (l6 + (-1)))]) [1, 2, 3, 4, 5, 0] dX1_countPassed_69 rfl rfl (by decide) rfl ?_
            refine tr_goto (tgt := 24) dX1_countPassed_72 (by decide) ?_
            exact (fun y0 y1 y2 y3 y4 y5 g0 => ih y0 y1 y2 y3 y4 y5 g0) l0 l2 l3 l4 (l5 + 1) (l6 + (-1)) h0
        · refine tr_goto (tgt := 75) dX1_countPassed_56 (by decide) ?_
          refine tr_iload (i := 4) dX1_countPassed_75 rfl ?_
          exact tr_iret rfl rfl (by decide) (by decide) dX1_countPassed_77
set_option maxRecDepth 100000 in
theorem sp_X1_countPassed (G : MG) (hG : (g_l G).stackTraces = false) (d : Nat) (hd : 3 ≤ d)   (σ : MsSt) (l0 : Nat) (l1 : Int32) (l2 : Int32) (l3 : Int32) (h0 : ms_kd l0 = 2) : MsSpec G mX1_countPassed d 0 0 [.ref l0, .int l1, .int l2, .int l3] σ (ms_ki σ) (f_X1_countPassed σ l0 l1 l2 l3) := by
  refine ms_start (by decide +kernel) rfl rfl (Nat.le_of_ble_eq_true rfl) ?_
  show TrO G mX1_countPassed d 0 0 0 0 (ms_ki σ) 0 [(0, .ref l0), (1, .int l1), (2, .int l2), (3, .int l3)] [] σ ((f_X5_get σ (ms_rf l0 1) l1).bind fun v1 => (f_X1_classWith σ l0 v1 l2 l3).bind fun v2 => f_X1_countPassed_24 σ ms_fuel l0 l2 l3 v2 0 (l1 - 1))
  refine tr_aload_n (i := 0) dX1_countPassed_0 rfl ?_
  refine tr_aload_n (i := 0) dX1_countPassed_1 rfl ?_
  refine tr_getR 1 h0 fl_X1_20 (by decide +kernel) dX1_countPassed_2 ?_
  refine tr_iload_n (i := 1) dX1_countPassed_5 rfl ?_
  refine tr_c_i (ms_cV (rest := [.ref l0]) (al := [.int l1]) 5 (sp_X5_get G hG (d - 1) (by omega) σ (ms_rf l0 1) l1 (rk_1_1 h0)) (rk_1_1 h0) (by decide +kernel) kl_X1_66 fv_X5_get dX1_countPassed_6 (show _ = some 1 by decide +kernel) (by omega) (Nat.le_of_ble_eq_true rfl) (by decide) (by decide)) (fun v1 => ?_)
  refine tr_iload_n (i := 2) dX1_countPassed_9 rfl ?_
  refine tr_iload_n (i := 3) dX1_countPassed_10 rfl ?_
  refine tr_c_i (ms_cV (rest := []) (al := [.int v1, .int l2, .int l3]) 1 (sp_X1_classWith G hG (d - 1) (by omega) σ l0 v1 l2 l3 h0) h0 (by decide +kernel) kl_X1_109 fv_X1_classWith dX1_countPassed_11 (show _ = some 3 by decide +kernel) (by omega) (Nat.le_of_ble_eq_true rfl) (by decide) (by decide)) (fun v2 => ?_)
  refine tr_istore (lv' := [(0, .ref l0), (1, .int l1), (2, .int l2), (3, .int l3), (4, .int v2)]) [1, 2, 3, 4, 0] dX1_countPassed_14 (by decide) rfl ?_
  refine tr_iconst (v := 0) dX1_countPassed_16 (by decide +kernel) ?_
  refine tr_istore (lv' := [(0, .ref l0), (1, .int l1), (2, .int l2), (3, .int l3), (4, .int v2), (5, .int 0)]) [1, 2, 3, 4, 5, 0] dX1_countPassed_17 (by decide) rfl ?_
  refine tr_iload_n (i := 1) dX1_countPassed_19 rfl ?_
  refine tr_iconst (v := 1) dX1_countPassed_20 (by decide +kernel) ?_
  refine tr_isub dX1_countPassed_21 ?_
  refine tr_istore (lv' := [(0, .ref l0), (2, .int l2), (3, .int l3), (4, .int v2), (5, .int 0), (6, .int (l1 - 1))]) [1, 3, 4, 5, 6, 0] dX1_countPassed_22 (by decide) rfl ?_
  exact t_X1_countPassed_24 G hG d hd σ ms_fuel l0 l2 l3 v2 0 (l1 - 1) h0
theorem dX1_countSwaps_0 : decode cX1_countSwaps 0 = .ok (.iconst 0, 1) := by decide +kernel
theorem dX1_countSwaps_1 : decode cX1_countSwaps 1 = .ok (.istore_n 3, 1) := by decide +kernel
theorem dX1_countSwaps_2 : decode cX1_countSwaps 2 = .ok (.iconst 0, 1) := by decide +kernel
theorem dX1_countSwaps_3 : decode cX1_countSwaps 3 = .ok (.istore 4, 2) := by decide +kernel
theorem dX1_countSwaps_5 : decode cX1_countSwaps 5 = .ok (.iload 4, 2) := by decide +kernel
theorem dX1_countSwaps_7 : decode cX1_countSwaps 7 = .ok (.aload_n 0, 1) := by decide +kernel
theorem dX1_countSwaps_8 : decode cX1_countSwaps 8 = .ok (.getfield 20, 3) := by decide +kernel
theorem dX1_countSwaps_11 : decode cX1_countSwaps 11 = .ok (.getfield 46, 3) := by decide +kernel
theorem dX1_countSwaps_14 : decode cX1_countSwaps 14 = .ok (.if_icmp .ge 20, 3) := by decide +kernel
theorem dX1_countSwaps_17 : decode cX1_countSwaps 17 = .ok (.iload_n 3, 1) := by decide +kernel
theorem dX1_countSwaps_18 : decode cX1_countSwaps 18 = .ok (.aload_n 0, 1) := by decide +kernel
theorem dX1_countSwaps_19 : decode cX1_countSwaps 19 = .ok (.iload 4, 2) := by decide +kernel
theorem dX1_countSwaps_21 : decode cX1_countSwaps 21 = .ok (.iload_n 1, 1) := by decide +kernel
theorem dX1_countSwaps_22 : decode cX1_countSwaps 22 = .ok (.iload_n 2, 1) := by decide +kernel
theorem dX1_countSwaps_23 : decode cX1_countSwaps 23 = .ok (.invokevirtual 106, 3) := by decide +kernel
theorem dX1_countSwaps_26 : decode cX1_countSwaps 26 = .ok (.iadd, 1) := by decide +kernel
theorem dX1_countSwaps_27 : decode cX1_countSwaps 27 = .ok (.istore_n 3, 1) := by decide +kernel
theorem dX1_countSwaps_28 : decode cX1_countSwaps 28 = .ok (.iinc 4 1, 3) := by decide +kernel
theorem dX1_countSwaps_31 : decode cX1_countSwaps 31 = .ok (.goto (-26), 3) := by decide +kernel
theorem dX1_countSwaps_34 : decode cX1_countSwaps 34 = .ok (.iload_n 3, 1) := by decide +kernel
theorem dX1_countSwaps_35 : decode cX1_countSwaps 35 = .ok (.ireturn, 1) := by decide +kernel
set_option maxRecDepth 100000 in
theorem t_X1_countSwaps_5 (G : MG) (hG : (g_l G).stackTraces = false) (d : Nat) (hd : 4 ≤ d)   (σ : MsSt)  : ∀ (n : Nat) (l0 : Nat) (l1 : Int32) (l2 : Int32) (l3 : Int32) (l4 : Int32) (h0 : ms_kd l0 = 2), TrO G mX1_countSwaps d 0 0 0 0 (ms_ki σ) 5 [(0, .ref l0), (1, .int l1), (2, .int l2), (3, .int l3), (4, .int l4)] [] σ (f_X1_countSwaps_5 σ n l0 l1 l2 l3 l4) := by
  intro n
  induction n with
  | zero => exact fun _ _ _ _ _ _ => tr_none
  | succ n ih =>
    intro l0 l1 l2 l3 l4 h0
    show TrO G mX1_countSwaps d 0 0 0 0 (ms_ki σ) 5 [(0, .ref l0), (1, .int l1), (2, .int l2), (3, .int l3), (4, .int l4)] [] σ (if l4 < (ms_i σ (ms_rf l0 1) 1) then (f_X1_countPassed σ l0 l4 l1 l2).bind fun v1 => (f_X1_countSwaps_5 σ n) l0 l1 l2 (l3 + v1) (l4 + 1) else some l3)
    refine tr_iload (i := 4) dX1_countSwaps_5 rfl ?_
    refine tr_aload_n (i := 0) dX1_countSwaps_7 rfl ?_
    refine tr_getR 1 h0 fl_X1_20 (by decide +kernel) dX1_countSwaps_8 ?_
    refine tr_getI 5 (rk_1_1 h0) fl_X1_46 (by decide +kernel) dX1_countSwaps_11 ?_
    refine tr_icge (o := none) (tgt := 34) dX1_countSwaps_14 (by decide) ?_ ?_
    · refine tr_iload_n (i := 3) dX1_countSwaps_34 rfl ?_
      exact tr_iret rfl rfl (by decide) (by decide) dX1_countSwaps_35
    · refine tr_iload_n (i := 3) dX1_countSwaps_17 rfl ?_
      refine tr_aload_n (i := 0) dX1_countSwaps_18 rfl ?_
      refine tr_iload (i := 4) dX1_countSwaps_19 rfl ?_
      refine tr_iload_n (i := 1) dX1_countSwaps_21 rfl ?_
      refine tr_iload_n (i := 2) dX1_countSwaps_22 rfl ?_
      refine tr_c_i (ms_cV (rest := [.int l3]) (al := [.int l4, .int l1, .int l2]) 1 (sp_X1_countPassed G hG (d - 1) (by omega) σ l0 l4 l1 l2 h0) h0 (by decide +kernel) kl_X1_106 fv_X1_countPassed dX1_countSwaps_23 (show _ = some 3 by decide +kernel) (by omega) (Nat.le_of_ble_eq_true rfl) (by decide) (by decide)) (fun v1 => ?_)
      refine tr_iadd dX1_countSwaps_26 ?_
      refine tr_istore_n (lv' := [(0, .ref l0), (1, .int l1), (2, .int l2), (3, .int (l3 + v1)), (4, .int l4)]) [1, 2, 3, 0, 4] dX1_countSwaps_27 (by decide) rfl ?_
      refine tr_iinc (k := 4) (v := (l4 + 1)) (lv' := [(0, .ref l0), (1, .int l1), (2, .int l2), (3, .int (l3 + v1)), (4, .int (l4 + 1))]) [1, 2, 3, 4, 0] dX1_countSwaps_28 rfl rfl (by decide) rfl ?_
      refine tr_goto (tgt := 5) dX1_countSwaps_31 (by decide) ?_
      exact (fun y0 y1 y2 y3 y4 g0 => ih y0 y1 y2 y3 y4 g0) l0 l1 l2 (l3 + v1) (l4 + 1) h0
set_option maxRecDepth 100000 in
theorem sp_X1_countSwaps (G : MG) (hG : (g_l G).stackTraces = false) (d : Nat) (hd : 4 ≤ d)   (σ : MsSt) (l0 : Nat) (l1 : Int32) (l2 : Int32) (h0 : ms_kd l0 = 2) : MsSpec G mX1_countSwaps d 0 0 [.ref l0, .int l1, .int l2] σ (ms_ki σ) (f_X1_countSwaps σ l0 l1 l2) := by
  refine ms_start (by decide +kernel) rfl rfl (Nat.le_of_ble_eq_true rfl) ?_
  show TrO G mX1_countSwaps d 0 0 0 0 (ms_ki σ) 0 [(0, .ref l0), (1, .int l1), (2, .int l2)] [] σ (f_X1_countSwaps_5 σ ms_fuel l0 l1 l2 0 0)
  refine tr_iconst (v := 0) dX1_countSwaps_0 (by decide +kernel) ?_
  refine tr_istore_n (lv' := [(0, .ref l0), (1, .int l1), (2, .int l2), (3, .int 0)]) [1, 2, 3, 0] dX1_countSwaps_1 (by decide) rfl ?_
  refine tr_iconst (v := 0) dX1_countSwaps_2 (by decide +kernel) ?_
  refine tr_istore (lv' := [(0, .ref l0), (1, .int l1), (2, .int l2), (3, .int 0), (4, .int 0)]) [1, 2, 3, 4, 0] dX1_countSwaps_3 (by decide) rfl ?_
  exact t_X1_countSwaps_5 G hG d hd σ ms_fuel l0 l1 l2 0 0 h0
theorem dX1_countOrders_0 : decode cX1_countOrders 0 = .ok (.lconst 1, 1) := by decide +kernel
theorem dX1_countOrders_1 : decode cX1_countOrders 1 = .ok (.lstore_n 2, 1) := by decide +kernel
theorem dX1_countOrders_2 : decode cX1_countOrders 2 = .ok (.iconst 0, 1) := by decide +kernel
theorem dX1_countOrders_3 : decode cX1_countOrders 3 = .ok (.istore 4, 2) := by decide +kernel
theorem dX1_countOrders_5 : decode cX1_countOrders 5 = .ok (.iconst 0, 1) := by decide +kernel
theorem dX1_countOrders_6 : decode cX1_countOrders 6 = .ok (.istore 5, 2) := by decide +kernel
theorem dX1_countOrders_8 : decode cX1_countOrders 8 = .ok (.iconst 0, 1) := by decide +kernel
theorem dX1_countOrders_9 : decode cX1_countOrders 9 = .ok (.istore 6, 2) := by decide +kernel
theorem dX1_countOrders_11 : decode cX1_countOrders 11 = .ok (.aload_n 0, 1) := by decide +kernel
theorem dX1_countOrders_12 : decode cX1_countOrders 12 = .ok (.iload_n 1, 1) := by decide +kernel
theorem dX1_countOrders_13 : decode cX1_countOrders 13 = .ok (.invokevirtual 93, 3) := by decide +kernel
theorem dX1_countOrders_16 : decode cX1_countOrders 16 = .ok (.istore 7, 2) := by decide +kernel
theorem dX1_countOrders_18 : decode cX1_countOrders 18 = .ok (.iload 7, 2) := by decide +kernel
theorem dX1_countOrders_20 : decode cX1_countOrders 20 = .ok (.aload_n 0, 1) := by decide +kernel
theorem dX1_countOrders_21 : decode cX1_countOrders 21 = .ok (.iload_n 1, 1) := by decide +kernel
theorem dX1_countOrders_22 : decode cX1_countOrders 22 = .ok (.invokevirtual 96, 3) := by decide +kernel
theorem dX1_countOrders_25 : decode cX1_countOrders 25 = .ok (.if_icmp .ge 70, 3) := by decide +kernel
theorem dX1_countOrders_28 : decode cX1_countOrders 28 = .ok (.aload_n 0, 1) := by decide +kernel
theorem dX1_countOrders_29 : decode cX1_countOrders 29 = .ok (.getfield 9, 3) := by decide +kernel
theorem dX1_countOrders_32 : decode cX1_countOrders 32 = .ok (.aload_n 0, 1) := by decide +kernel
theorem dX1_countOrders_33 : decode cX1_countOrders 33 = .ok (.getfield 24, 3) := by decide +kernel
theorem dX1_countOrders_36 : decode cX1_countOrders 36 = .ok (.iload 7, 2) := by decide +kernel
theorem dX1_countOrders_38 : decode cX1_countOrders 38 = .ok (.invokevirtual 66, 3) := by decide +kernel
theorem dX1_countOrders_41 : decode cX1_countOrders 41 = .ok (.invokevirtual 87, 3) := by decide +kernel
theorem dX1_countOrders_44 : decode cX1_countOrders 44 = .ok (.istore 8, 2) := by decide +kernel
theorem dX1_countOrders_46 : decode cX1_countOrders 46 = .ok (.iload 8, 2) := by decide +kernel
theorem dX1_countOrders_48 : decode cX1_countOrders 48 = .ok (.iload 6, 2) := by decide +kernel
theorem dX1_countOrders_50 : decode cX1_countOrders 50 = .ok (.if_icmp .ne 10, 3) := by decide +kernel
theorem dX1_countOrders_53 : decode cX1_countOrders 53 = .ok (.iload 5, 2) := by decide +kernel
theorem dX1_countOrders_55 : decode cX1_countOrders 55 = .ok (.iconst 1, 1) := by decide +kernel
theorem dX1_countOrders_56 : decode cX1_countOrders 56 = .ok (.iadd, 1) := by decide +kernel
theorem dX1_countOrders_57 : decode cX1_countOrders 57 = .ok (.goto 4, 3) := by decide +kernel
theorem dX1_countOrders_60 : decode cX1_countOrders 60 = .ok (.iconst 1, 1) := by decide +kernel
theorem dX1_countOrders_61 : decode cX1_countOrders 61 = .ok (.istore 5, 2) := by decide +kernel
theorem dX1_countOrders_63 : decode cX1_countOrders 63 = .ok (.iload 8, 2) := by decide +kernel
theorem dX1_countOrders_65 : decode cX1_countOrders 65 = .ok (.istore 6, 2) := by decide +kernel
theorem dX1_countOrders_67 : decode cX1_countOrders 67 = .ok (.iinc 4 1, 3) := by decide +kernel
theorem dX1_countOrders_70 : decode cX1_countOrders 70 = .ok (.iload 5, 2) := by decide +kernel
theorem dX1_countOrders_72 : decode cX1_countOrders 72 = .ok (.ifCond .le 15, 3) := by decide +kernel
theorem dX1_countOrders_75 : decode cX1_countOrders 75 = .ok (.lload_n 2, 1) := by decide +kernel
theorem dX1_countOrders_76 : decode cX1_countOrders 76 = .ok (.iload 4, 2) := by decide +kernel
theorem dX1_countOrders_78 : decode cX1_countOrders 78 = .ok (.i2l, 1) := by decide +kernel
theorem dX1_countOrders_79 : decode cX1_countOrders 79 = .ok (.lmul, 1) := by decide +kernel
theorem dX1_countOrders_80 : decode cX1_countOrders 80 = .ok (.iload 5, 2) := by decide +kernel
theorem dX1_countOrders_82 : decode cX1_countOrders 82 = .ok (.i2l, 1) := by decide +kernel
theorem dX1_countOrders_83 : decode cX1_countOrders 83 = .ok (.ldiv, 1) := by decide +kernel
theorem dX1_countOrders_84 : decode cX1_countOrders 84 = .ok (.goto 4, 3) := by decide +kernel
theorem dX1_countOrders_87 : decode cX1_countOrders 87 = .ok (.lconst 0, 1) := by decide +kernel
theorem dX1_countOrders_88 : decode cX1_countOrders 88 = .ok (.lstore_n 2, 1) := by decide +kernel
theorem dX1_countOrders_89 : decode cX1_countOrders 89 = .ok (.iinc 7 1, 3) := by decide +kernel
theorem dX1_countOrders_92 : decode cX1_countOrders 92 = .ok (.goto (-74), 3) := by decide +kernel
theorem dX1_countOrders_95 : decode cX1_countOrders 95 = .ok (.lload_n 2, 1) := by decide +kernel
theorem dX1_countOrders_96 : decode cX1_countOrders 96 = .ok (.lreturn, 1) := by decide +kernel
set_option maxRecDepth 100000 in
theorem t_X1_countOrders_61 (G : MG) (hG : (g_l G).stackTraces = false) (d : Nat) (hd : 2 ≤ d)   (σ : MsSt) (k18 : Nat → Int32 → Int64 → Int32 → Int32 → Int32 → Int32 → Option (Int64)) (hk18 : ∀ (x1 : Nat) (x2 : Int32) (x3 : Int64) (x4 : Int32) (x5 : Int32) (x6 : Int32) (x7 : Int32), ms_kd x1 = 2 → TrO G mX1_countOrders d 0 0 0 0 (ms_kj σ) 18 [(0, .ref x1), (1, .int x2), (2, .long x3), (4, .int x4), (5, .int x5), (6, .int x6), (7, .int x7)] [] σ (k18 x1 x2 x3 x4 x5 x6 x7)) (l0 : Nat) (l1 : Int32) (l2 : Int64) (l4 : Int32) (l7 : Int32) (l8 : Int32) (t0 : Int32) (h0 : ms_kd l0 = 2) : TrO G mX1_countOrders d 0 0 0 0 (ms_kj σ) 61 [(0, .ref l0), (1, .int l1), (2, .long l2), (4, .int l4), (7, .int l7), (8, .int l8)] [.int t0] σ (f_X1_countOrders_61 σ k18 l0 l1 l2 l4 l7 l8 t0) := by
  show TrO G mX1_countOrders d 0 0 0 0 (ms_kj σ) 61 [(0, .ref l0), (1, .int l1), (2, .long l2), (4, .int l4), (7, .int l7), (8, .int l8)] [.int t0] σ (if 0 < t0 then (ms_ldiv (l2 * ((l4 + 1).toInt64)) t0.toInt64).bind fun v5 => k18 l0 l1 v5 (l4 + 1) t0 l8 (l7 + 1) else k18 l0 l1 0 (l4 + 1) t0 l8 (l7 + 1))
  refine tr_istore (lv' := [(0, .ref l0), (1, .int l1), (2, .long l2), (4, .int l4), (5, .int t0), (7, .int l7), (8, .int l8)]) [1, 2, 3, 4, 0, 5, 6] dX1_countOrders_61 (by decide) rfl ?_
  refine tr_iload (i := 6) dX1_countOrders_63 rfl ?_
  refine tr_istore (lv' := [(0, .ref l0), (1, .int l1), (2, .long l2), (4, .int l4), (5, .int t0), (6, .int l8), (7, .int l7)]) [1, 2, 3, 4, 5, 0, 6] dX1_countOrders_65 (by decide) rfl ?_
  refine tr_iinc (k := 3) (v := (l4 + 1)) (lv' := [(0, .ref l0), (1, .int l1), (2, .long l2), (4, .int (l4 + 1)), (5, .int t0), (6, .int l8), (7, .int l7)]) [1, 2, 3, 0, 4, 5, 6] dX1_countOrders_67 rfl rfl (by decide) rfl ?_
  refine tr_iload (i := 4) dX1_countOrders_70 rfl ?_
  refine tr_ifle (o := none) (tgt := 87) dX1_countOrders_72 (by decide) ?_ ?_
  · refine tr_lconst (v := 0) dX1_countOrders_87 (by decide +kernel) ?_
    refine tr_lstore_n (lv' := [(0, .ref l0), (1, .int l1), (2, .long 0), (4, .int (l4 + 1)), (5, .int t0), (6, .int l8), (7, .int l7)]) [1, 2, 0, 3, 4, 5, 6] dX1_countOrders_88 (by decide) rfl ?_
    refine tr_iinc (k := 6) (v := (l7 + 1)) (lv' := [(0, .ref l0), (1, .int l1), (2, .long 0), (4, .int (l4 + 1)), (5, .int t0), (6, .int l8), (7, .int (l7 + 1))]) [1, 2, 3, 4, 5, 6, 0] dX1_countOrders_89 rfl rfl (by decide) rfl ?_
    refine tr_goto (tgt := 18) dX1_countOrders_92 (by decide) ?_
    exact hk18 l0 l1 0 (l4 + 1) t0 l8 (l7 + 1) h0
  · refine tr_lload_n (i := 2) dX1_countOrders_75 rfl ?_
    refine tr_iload (i := 3) dX1_countOrders_76 rfl ?_
    refine tr_i2l dX1_countOrders_78 ?_
    refine tr_lmul dX1_countOrders_79 ?_
    refine tr_iload (i := 4) dX1_countOrders_80 rfl ?_
    refine tr_i2l dX1_countOrders_82 ?_
    refine tr_ldiv (o := none) dX1_countOrders_83 (fun v5 => ?_)
    refine tr_goto (tgt := 88) dX1_countOrders_84 (by decide) ?_
    refine tr_lstore_n (lv' := [(0, .ref l0), (1, .int l1), (2, .long v5), (4, .int (l4 + 1)), (5, .int t0), (6, .int l8), (7, .int l7)]) [1, 2, 0, 3, 4, 5, 6] dX1_countOrders_88 (by decide) rfl ?_
    refine tr_iinc (k := 6) (v := (l7 + 1)) (lv' := [(0, .ref l0), (1, .int l1), (2, .long v5), (4, .int (l4 + 1)), (5, .int t0), (6, .int l8), (7, .int (l7 + 1))]) [1, 2, 3, 4, 5, 6, 0] dX1_countOrders_89 rfl rfl (by decide) rfl ?_
    refine tr_goto (tgt := 18) dX1_countOrders_92 (by decide) ?_
    exact hk18 l0 l1 v5 (l4 + 1) t0 l8 (l7 + 1) h0
set_option maxRecDepth 100000 in
theorem t_X1_countOrders_18 (G : MG) (hG : (g_l G).stackTraces = false) (d : Nat) (hd : 2 ≤ d)   (σ : MsSt)  : ∀ (n : Nat) (l0 : Nat) (l1 : Int32) (l2 : Int64) (l4 : Int32) (l5 : Int32) (l6 : Int32) (l7 : Int32) (h0 : ms_kd l0 = 2), TrO G mX1_countOrders d 0 0 0 0 (ms_kj σ) 18 [(0, .ref l0), (1, .int l1), (2, .long l2), (4, .int l4), (5, .int l5), (6, .int l6), (7, .int l7)] [] σ (f_X1_countOrders_18 σ n l0 l1 l2 l4 l5 l6 l7) := by
  intro n
  induction n with
  | zero => exact fun _ _ _ _ _ _ _ _ => tr_none
  | succ n ih =>
    intro l0 l1 l2 l4 l5 l6 l7 h0
    show TrO G mX1_countOrders d 0 0 0 0 (ms_kj σ) 18 [(0, .ref l0), (1, .int l1), (2, .long l2), (4, .int l4), (5, .int l5), (6, .int l6), (7, .int l7)] [] σ ((f_X1_endOf σ l0 l1).bind fun v2 => if l7 < v2 then (f_X5_get σ (ms_rf l0 2) l7).bind fun v3 => (f_X6_classOf σ (ms_rf l0 0) v3).bind fun v4 => if v4 = l6 then f_X1_countOrders_61 σ (f_X1_countOrders_18 σ n) l0 l1 l2 l4 l7 v4 (l5 + 1) else f_X1_countOrders_61 σ (f_X1_countOrders_18 σ n) l0 l1 l2 l4 l7 v4 1 else some l2)
    refine tr_iload (i := 6) dX1_countOrders_18 rfl ?_
    refine tr_aload_n (i := 0) dX1_countOrders_20 rfl ?_
    refine tr_iload_n (i := 1) dX1_countOrders_21 rfl ?_
    refine tr_c_i (ms_cV (rest := [.int l7]) (al := [.int l1]) 1 (sp_X1_endOf G hG (d - 1) (by omega) σ l0 l1 h0) h0 (by decide +kernel) kl_X1_96 fv_X1_endOf dX1_countOrders_22 (show _ = some 1 by decide +kernel) (by omega) (Nat.le_of_ble_eq_true rfl) (by decide) (by decide)) (fun v2 => ?_)
    refine tr_icge (o := none) (tgt := 95) dX1_countOrders_25 (by decide) ?_ ?_
    · refine tr_lload_n (i := 2) dX1_countOrders_95 rfl ?_
      exact tr_lret rfl rfl (by decide) (by decide) dX1_countOrders_96
    · refine tr_aload_n (i := 0) dX1_countOrders_28 rfl ?_
      refine tr_getR 1 h0 fl_X1_9 (by decide +kernel) dX1_countOrders_29 ?_
      refine tr_aload_n (i := 0) dX1_countOrders_32 rfl ?_
      refine tr_getR 1 h0 fl_X1_24 (by decide +kernel) dX1_countOrders_33 ?_
      refine tr_iload (i := 6) dX1_countOrders_36 rfl ?_
      refine tr_c_i (ms_cV (rest := [.ref (ms_rf l0 0)]) (al := [.int l7]) 5 (sp_X5_get G hG (d - 1) (by omega) σ (ms_rf l0 2) l7 (rk_1_2 h0)) (rk_1_2 h0) (by decide +kernel) kl_X1_66 fv_X5_get dX1_countOrders_38 (show _ = some 1 by decide +kernel) (by omega) (Nat.le_of_ble_eq_true rfl) (by decide) (by decide)) (fun v3 => ?_)
      refine tr_c_i (ms_cV (rest := []) (al := [.int v3]) 6 (sp_X6_classOf G hG (d - 1) (by omega) σ (ms_rf l0 0) v3 (rk_1_0 h0)) (rk_1_0 h0) (by decide +kernel) kl_X1_87 fv_X6_classOf dX1_countOrders_41 (show _ = some 1 by decide +kernel) (by omega) (Nat.le_of_ble_eq_true rfl) (by decide) (by decide)) (fun v4 => ?_)
      refine tr_istore (lv' := [(0, .ref l0), (1, .int l1), (2, .long l2), (4, .int l4), (5, .int l5), (6, .int l6), (7, .int l7), (8, .int v4)]) [1, 2, 3, 4, 5, 6, 7, 0] dX1_countOrders_44 (by decide) rfl ?_
      refine tr_iload (i := 7) dX1_countOrders_46 rfl ?_
      refine tr_iload (i := 5) dX1_countOrders_48 rfl ?_
      refine tr_icne (o := none) (tgt := 60) dX1_countOrders_50 (by decide) ?_ ?_
      · refine tr_iconst (v := 1) dX1_countOrders_60 (by decide +kernel) ?_
        refine tr_weak [0, 1, 2, 3, 6, 7] (lv' := [(0, .ref l0), (1, .int l1), (2, .long l2), (4, .int l4), (7, .int l7), (8, .int v4)]) rfl ?_
        exact t_X1_countOrders_61 G hG d hd σ (f_X1_countOrders_18 σ n) (fun y0 y1 y2 y3 y4 y5 y6 g0 => ih y0 y1 y2 y3 y4 y5 y6 g0) l0 l1 l2 l4 l7 v4 1 h0
      · refine tr_iload (i := 4) dX1_countOrders_53 rfl ?_
        refine tr_iconst (v := 1) dX1_countOrders_55 (by decide +kernel) ?_
        refine tr_iadd dX1_countOrders_56 ?_
        refine tr_goto (tgt := 61) dX1_countOrders_57 (by decide) ?_
        refine tr_weak [0, 1, 2, 3, 6, 7] (lv' := [(0, .ref l0), (1, .int l1), (2, .long l2), (4, .int l4), (7, .int l7), (8, .int v4)]) rfl ?_
        exact t_X1_countOrders_61 G hG d hd σ (f_X1_countOrders_18 σ n) (fun y0 y1 y2 y3 y4 y5 y6 g0 => ih y0 y1 y2 y3 y4 y5 y6 g0) l0 l1 l2 l4 l7 v4 (l5 + 1) h0
set_option maxRecDepth 100000 in
theorem sp_X1_countOrders (G : MG) (hG : (g_l G).stackTraces = false) (d : Nat) (hd : 2 ≤ d)   (σ : MsSt) (l0 : Nat) (l1 : Int32) (h0 : ms_kd l0 = 2) : MsSpec G mX1_countOrders d 0 0 [.ref l0, .int l1] σ (ms_kj σ) (f_X1_countOrders σ l0 l1) := by
  refine ms_start (by decide +kernel) rfl rfl (Nat.le_of_ble_eq_true rfl) ?_
  show TrO G mX1_countOrders d 0 0 0 0 (ms_kj σ) 0 [(0, .ref l0), (1, .int l1)] [] σ ((f_X1_firstMark σ l0 l1).bind fun v1 => f_X1_countOrders_18 σ ms_fuel l0 l1 1 0 0 0 v1)
  refine tr_lconst (v := 1) dX1_countOrders_0 (by decide +kernel) ?_
  refine tr_lstore_n (lv' := [(0, .ref l0), (1, .int l1), (2, .long 1)]) [1, 2, 0] dX1_countOrders_1 (by decide) rfl ?_
  refine tr_iconst (v := 0) dX1_countOrders_2 (by decide +kernel) ?_
  refine tr_istore (lv' := [(0, .ref l0), (1, .int l1), (2, .long 1), (4, .int 0)]) [1, 2, 3, 0] dX1_countOrders_3 (by decide) rfl ?_
  refine tr_iconst (v := 0) dX1_countOrders_5 (by decide +kernel) ?_
  refine tr_istore (lv' := [(0, .ref l0), (1, .int l1), (2, .long 1), (4, .int 0), (5, .int 0)]) [1, 2, 3, 4, 0] dX1_countOrders_6 (by decide) rfl ?_
  refine tr_iconst (v := 0) dX1_countOrders_8 (by decide +kernel) ?_
  refine tr_istore (lv' := [(0, .ref l0), (1, .int l1), (2, .long 1), (4, .int 0), (5, .int 0), (6, .int 0)]) [1, 2, 3, 4, 5, 0] dX1_countOrders_9 (by decide) rfl ?_
  refine tr_aload_n (i := 0) dX1_countOrders_11 rfl ?_
  refine tr_iload_n (i := 1) dX1_countOrders_12 rfl ?_
  refine tr_c_i (ms_cV (rest := []) (al := [.int l1]) 1 (sp_X1_firstMark G hG (d - 1) (by omega) σ l0 l1 h0) h0 (by decide +kernel) kl_X1_93 fv_X1_firstMark dX1_countOrders_13 (show _ = some 1 by decide +kernel) (by omega) (Nat.le_of_ble_eq_true rfl) (by decide) (by decide)) (fun v1 => ?_)
  refine tr_istore (lv' := [(0, .ref l0), (1, .int l1), (2, .long 1), (4, .int 0), (5, .int 0), (6, .int 0), (7, .int v1)]) [1, 2, 3, 4, 5, 6, 0] dX1_countOrders_16 (by decide) rfl ?_
  exact t_X1_countOrders_18 G hG d hd σ ms_fuel l0 l1 1 0 0 0 v1 h0
theorem dX1_marksUpTo_0 : decode cX1_marksUpTo 0 = .ok (.iconst 0, 1) := by decide +kernel
theorem dX1_marksUpTo_1 : decode cX1_marksUpTo 1 = .ok (.istore_n 3, 1) := by decide +kernel
theorem dX1_marksUpTo_2 : decode cX1_marksUpTo 2 = .ok (.aload_n 0, 1) := by decide +kernel
theorem dX1_marksUpTo_3 : decode cX1_marksUpTo 3 = .ok (.iload_n 1, 1) := by decide +kernel
theorem dX1_marksUpTo_4 : decode cX1_marksUpTo 4 = .ok (.invokevirtual 93, 3) := by decide +kernel
theorem dX1_marksUpTo_7 : decode cX1_marksUpTo 7 = .ok (.istore 4, 2) := by decide +kernel
theorem dX1_marksUpTo_9 : decode cX1_marksUpTo 9 = .ok (.iload 4, 2) := by decide +kernel
theorem dX1_marksUpTo_11 : decode cX1_marksUpTo 11 = .ok (.aload_n 0, 1) := by decide +kernel
theorem dX1_marksUpTo_12 : decode cX1_marksUpTo 12 = .ok (.iload_n 1, 1) := by decide +kernel
theorem dX1_marksUpTo_13 : decode cX1_marksUpTo 13 = .ok (.invokevirtual 96, 3) := by decide +kernel
theorem dX1_marksUpTo_16 : decode cX1_marksUpTo 16 = .ok (.if_icmp .ge 32, 3) := by decide +kernel
theorem dX1_marksUpTo_19 : decode cX1_marksUpTo 19 = .ok (.aload_n 0, 1) := by decide +kernel
theorem dX1_marksUpTo_20 : decode cX1_marksUpTo 20 = .ok (.getfield 9, 3) := by decide +kernel
theorem dX1_marksUpTo_23 : decode cX1_marksUpTo 23 = .ok (.aload_n 0, 1) := by decide +kernel
theorem dX1_marksUpTo_24 : decode cX1_marksUpTo 24 = .ok (.getfield 24, 3) := by decide +kernel
theorem dX1_marksUpTo_27 : decode cX1_marksUpTo 27 = .ok (.iload 4, 2) := by decide +kernel
theorem dX1_marksUpTo_29 : decode cX1_marksUpTo 29 = .ok (.invokevirtual 66, 3) := by decide +kernel
theorem dX1_marksUpTo_32 : decode cX1_marksUpTo 32 = .ok (.invokevirtual 87, 3) := by decide +kernel
theorem dX1_marksUpTo_35 : decode cX1_marksUpTo 35 = .ok (.iload_n 2, 1) := by decide +kernel
theorem dX1_marksUpTo_36 : decode cX1_marksUpTo 36 = .ok (.if_icmp .gt 6, 3) := by decide +kernel
theorem dX1_marksUpTo_39 : decode cX1_marksUpTo 39 = .ok (.iinc 3 1, 3) := by decide +kernel
theorem dX1_marksUpTo_42 : decode cX1_marksUpTo 42 = .ok (.iinc 4 1, 3) := by decide +kernel
theorem dX1_marksUpTo_45 : decode cX1_marksUpTo 45 = .ok (.goto (-36), 3) := by decide +kernel
theorem dX1_marksUpTo_48 : decode cX1_marksUpTo 48 = .ok (.iload_n 3, 1) := by decide +kernel
theorem dX1_marksUpTo_49 : decode cX1_marksUpTo 49 = .ok (.ireturn, 1) := by decide +kernel
set_option maxRecDepth 100000 in
theorem t_X1_marksUpTo_9 (G : MG) (hG : (g_l G).stackTraces = false) (d : Nat) (hd : 2 ≤ d)   (σ : MsSt)  : ∀ (n : Nat) (l0 : Nat) (l1 : Int32) (l2 : Int32) (l3 : Int32) (l4 : Int32) (h0 : ms_kd l0 = 2), TrO G mX1_marksUpTo d 0 0 0 0 (ms_ki σ) 9 [(0, .ref l0), (1, .int l1), (2, .int l2), (3, .int l3), (4, .int l4)] [] σ (f_X1_marksUpTo_9 σ n l0 l1 l2 l3 l4) := by
  intro n
  induction n with
  | zero => exact fun _ _ _ _ _ _ => tr_none
  | succ n ih =>
    intro l0 l1 l2 l3 l4 h0
    show TrO G mX1_marksUpTo d 0 0 0 0 (ms_ki σ) 9 [(0, .ref l0), (1, .int l1), (2, .int l2), (3, .int l3), (4, .int l4)] [] σ ((f_X1_endOf σ l0 l1).bind fun v2 => if l4 < v2 then (f_X5_get σ (ms_rf l0 2) l4).bind fun v3 => (f_X6_classOf σ (ms_rf l0 0) v3).bind fun v4 => if l2 < v4 then (f_X1_marksUpTo_9 σ n) l0 l1 l2 l3 (l4 + 1) else (f_X1_marksUpTo_9 σ n) l0 l1 l2 (l3 + 1) (l4 + 1) else some l3)
    refine tr_iload (i := 4) dX1_marksUpTo_9 rfl ?_
    refine tr_aload_n (i := 0) dX1_marksUpTo_11 rfl ?_
    refine tr_iload_n (i := 1) dX1_marksUpTo_12 rfl ?_
    refine tr_c_i (ms_cV (rest := [.int l4]) (al := [.int l1]) 1 (sp_X1_endOf G hG (d - 1) (by omega) σ l0 l1 h0) h0 (by decide +kernel) kl_X1_96 fv_X1_endOf dX1_marksUpTo_13 (show _ = some 1 by decide +kernel) (by omega) (Nat.le_of_ble_eq_true rfl) (by decide) (by decide)) (fun v2 => ?_)
    refine tr_icge (o := none) (tgt := 48) dX1_marksUpTo_16 (by decide) ?_ ?_
    · refine tr_iload_n (i := 3) dX1_marksUpTo_48 rfl ?_
      exact tr_iret rfl rfl (by decide) (by decide) dX1_marksUpTo_49
    · refine tr_aload_n (i := 0) dX1_marksUpTo_19 rfl ?_
      refine tr_getR 1 h0 fl_X1_9 (by decide +kernel) dX1_marksUpTo_20 ?_
      refine tr_aload_n (i := 0) dX1_marksUpTo_23 rfl ?_
      refine tr_getR 1 h0 fl_X1_24 (by decide +kernel) dX1_marksUpTo_24 ?_
      refine tr_iload (i := 4) dX1_marksUpTo_27 rfl ?_
      refine tr_c_i (ms_cV (rest := [.ref (ms_rf l0 0)]) (al := [.int l4]) 5 (sp_X5_get G hG (d - 1) (by omega) σ (ms_rf l0 2) l4 (rk_1_2 h0)) (rk_1_2 h0) (by decide +kernel) kl_X1_66 fv_X5_get dX1_marksUpTo_29 (show _ = some 1 by decide +kernel) (by omega) (Nat.le_of_ble_eq_true rfl) (by decide) (by decide)) (fun v3 => ?_)
      refine tr_c_i (ms_cV (rest := []) (al := [.int v3]) 6 (sp_X6_classOf G hG (d - 1) (by omega) σ (ms_rf l0 0) v3 (rk_1_0 h0)) (rk_1_0 h0) (by decide +kernel) kl_X1_87 fv_X6_classOf dX1_marksUpTo_32 (show _ = some 1 by decide +kernel) (by omega) (Nat.le_of_ble_eq_true rfl) (by decide) (by decide)) (fun v4 => ?_)
      refine tr_iload_n (i := 2) dX1_marksUpTo_35 rfl ?_
      refine tr_icgt (o := none) (tgt := 42) dX1_marksUpTo_36 (by decide) ?_ ?_
      · refine tr_iinc (k := 4) (v := (l4 + 1)) (lv' := [(0, .ref l0), (1, .int l1), (2, .int l2), (3, .int l3), (4, .int (l4 + 1))]) [1, 2, 3, 4, 0] dX1_marksUpTo_42 rfl rfl (by decide) rfl ?_
        refine tr_goto (tgt := 9) dX1_marksUpTo_45 (by decide) ?_
        exact (fun y0 y1 y2 y3 y4 g0 => ih y0 y1 y2 y3 y4 g0) l0 l1 l2 l3 (l4 + 1) h0
      · refine tr_iinc (k := 3) (v := (l3 + 1)) (lv' := [(0, .ref l0), (1, .int l1), (2, .int l2), (3, .int (l3 + 1)), (4, .int l4)]) [1, 2, 3, 0, 4] dX1_marksUpTo_39 rfl rfl (by decide) rfl ?_
        refine tr_iinc (k := 4) (v := (l4 + 1)) (lv' := [(0, .ref l0), (1, .int l1), (2, .int l2), (3, .int (l3 + 1)), (4, .int (l4 + 1))]) [1, 2, 3, 4, 0] dX1_marksUpTo_42 rfl rfl (by decide) rfl ?_
        refine tr_goto (tgt := 9) dX1_marksUpTo_45 (by decide) ?_
        exact (fun y0 y1 y2 y3 y4 g0 => ih y0 y1 y2 y3 y4 g0) l0 l1 l2 (l3 + 1) (l4 + 1) h0
set_option maxRecDepth 100000 in
theorem sp_X1_marksUpTo (G : MG) (hG : (g_l G).stackTraces = false) (d : Nat) (hd : 2 ≤ d)   (σ : MsSt) (l0 : Nat) (l1 : Int32) (l2 : Int32) (h0 : ms_kd l0 = 2) : MsSpec G mX1_marksUpTo d 0 0 [.ref l0, .int l1, .int l2] σ (ms_ki σ) (f_X1_marksUpTo σ l0 l1 l2) := by
  refine ms_start (by decide +kernel) rfl rfl (Nat.le_of_ble_eq_true rfl) ?_
  show TrO G mX1_marksUpTo d 0 0 0 0 (ms_ki σ) 0 [(0, .ref l0), (1, .int l1), (2, .int l2)] [] σ ((f_X1_firstMark σ l0 l1).bind fun v1 => f_X1_marksUpTo_9 σ ms_fuel l0 l1 l2 0 v1)
  refine tr_iconst (v := 0) dX1_marksUpTo_0 (by decide +kernel) ?_
  refine tr_istore_n (lv' := [(0, .ref l0), (1, .int l1), (2, .int l2), (3, .int 0)]) [1, 2, 3, 0] dX1_marksUpTo_1 (by decide) rfl ?_
  refine tr_aload_n (i := 0) dX1_marksUpTo_2 rfl ?_
  refine tr_iload_n (i := 1) dX1_marksUpTo_3 rfl ?_
  refine tr_c_i (ms_cV (rest := []) (al := [.int l1]) 1 (sp_X1_firstMark G hG (d - 1) (by omega) σ l0 l1 h0) h0 (by decide +kernel) kl_X1_93 fv_X1_firstMark dX1_marksUpTo_4 (show _ = some 1 by decide +kernel) (by omega) (Nat.le_of_ble_eq_true rfl) (by decide) (by decide)) (fun v1 => ?_)
  refine tr_istore (lv' := [(0, .ref l0), (1, .int l1), (2, .int l2), (3, .int 0), (4, .int v1)]) [1, 2, 3, 4, 0] dX1_marksUpTo_7 (by decide) rfl ?_
  exact t_X1_marksUpTo_9 G hG d hd σ ms_fuel l0 l1 l2 0 v1 h0
theorem dX1_isOfSide_0 : decode cX1_isOfSide 0 = .ok (.iload_n 2, 1) := by decide +kernel
theorem dX1_isOfSide_1 : decode cX1_isOfSide 1 = .ok (.iconst 3, 1) := by decide +kernel
theorem dX1_isOfSide_2 : decode cX1_isOfSide 2 = .ok (.if_icmp .eq 18, 3) := by decide +kernel
theorem dX1_isOfSide_5 : decode cX1_isOfSide 5 = .ok (.aload_n 0, 1) := by decide +kernel
theorem dX1_isOfSide_6 : decode cX1_isOfSide 6 = .ok (.getfield 9, 3) := by decide +kernel
theorem dX1_isOfSide_9 : decode cX1_isOfSide 9 = .ok (.iload_n 1, 1) := by decide +kernel
theorem dX1_isOfSide_10 : decode cX1_isOfSide 10 = .ok (.invokevirtual 70, 3) := by decide +kernel
theorem dX1_isOfSide_13 : decode cX1_isOfSide 13 = .ok (.getfield 112, 3) := by decide +kernel
theorem dX1_isOfSide_16 : decode cX1_isOfSide 16 = .ok (.iload_n 2, 1) := by decide +kernel
theorem dX1_isOfSide_17 : decode cX1_isOfSide 17 = .ok (.if_icmp .ne 7, 3) := by decide +kernel
theorem dX1_isOfSide_20 : decode cX1_isOfSide 20 = .ok (.iconst 1, 1) := by decide +kernel
theorem dX1_isOfSide_21 : decode cX1_isOfSide 21 = .ok (.goto 4, 3) := by decide +kernel
theorem dX1_isOfSide_24 : decode cX1_isOfSide 24 = .ok (.iconst 0, 1) := by decide +kernel
theorem dX1_isOfSide_25 : decode cX1_isOfSide 25 = .ok (.ireturn, 1) := by decide +kernel
set_option maxRecDepth 100000 in
theorem sp_X1_isOfSide (G : MG) (hG : (g_l G).stackTraces = false) (d : Nat) (hd : 1 ≤ d)   (σ : MsSt) (l0 : Nat) (l1 : Int32) (l2 : Int32) (h0 : ms_kd l0 = 2) : MsSpec G mX1_isOfSide d 0 0 [.ref l0, .int l1, .int l2] σ (ms_ki σ) (f_X1_isOfSide σ l0 l1 l2) := by
  refine ms_start (by decide +kernel) rfl rfl (Nat.le_of_ble_eq_true rfl) ?_
  show TrO G mX1_isOfSide d 0 0 0 0 (ms_ki σ) 0 [(0, .ref l0), (1, .int l1), (2, .int l2)] [] σ (if l2 = 3 then some 1 else (f_X6_told σ (ms_rf l0 0) l1).bind fun v1 => if (ms_i σ v1 5) = l2 then some 1 else some 0)
  refine tr_iload_n (i := 2) dX1_isOfSide_0 rfl ?_
  refine tr_iconst (v := 3) dX1_isOfSide_1 (by decide +kernel) ?_
  refine tr_iceq (o := none) (tgt := 20) dX1_isOfSide_2 (by decide) ?_ ?_
  · refine tr_iconst (v := 1) dX1_isOfSide_20 (by decide +kernel) ?_
    refine tr_goto (tgt := 25) dX1_isOfSide_21 (by decide) ?_
    exact tr_zret rfl (by decide +kernel) rfl (by decide) (by decide) dX1_isOfSide_25
  · refine tr_aload_n (i := 0) dX1_isOfSide_5 rfl ?_
    refine tr_getR 1 h0 fl_X1_9 (by decide +kernel) dX1_isOfSide_6 ?_
    refine tr_iload_n (i := 1) dX1_isOfSide_9 rfl ?_
    refine tr_c_a (ms_cV (rest := []) (al := [.int l1]) 6 (sp_X6_told G hG (d - 1) (by omega) σ (ms_rf l0 0) l1 (rk_1_0 h0)) (rk_1_0 h0) (by decide +kernel) kl_X1_70 fv_X6_told dX1_isOfSide_10 (show _ = some 1 by decide +kernel) (by omega) (Nat.le_of_ble_eq_true rfl) (by decide) (by decide)) (fun v1 e_v1 => ?_)
    refine tr_getI 7 (ra_X6_told (rk_1_0 h0) e_v1) fl_X1_112 (by decide +kernel) dX1_isOfSide_13 ?_
    refine tr_iload_n (i := 2) dX1_isOfSide_16 rfl ?_
    refine tr_icne (o := none) (tgt := 24) dX1_isOfSide_17 (by decide) ?_ ?_
    · refine tr_iconst (v := 0) dX1_isOfSide_24 (by decide +kernel) ?_
      exact tr_zret rfl (by decide +kernel) rfl (by decide) (by decide) dX1_isOfSide_25
    · refine tr_iconst (v := 1) dX1_isOfSide_20 (by decide +kernel) ?_
      refine tr_goto (tgt := 25) dX1_isOfSide_21 (by decide) ?_
      exact tr_zret rfl (by decide +kernel) rfl (by decide) (by decide) dX1_isOfSide_25
theorem dX1_marksOfSide_0 : decode cX1_marksOfSide 0 = .ok (.iconst 0, 1) := by decide +kernel
theorem dX1_marksOfSide_1 : decode cX1_marksOfSide 1 = .ok (.istore_n 3, 1) := by decide +kernel
theorem dX1_marksOfSide_2 : decode cX1_marksOfSide 2 = .ok (.aload_n 0, 1) := by decide +kernel
theorem dX1_marksOfSide_3 : decode cX1_marksOfSide 3 = .ok (.iload_n 1, 1) := by decide +kernel
theorem dX1_marksOfSide_4 : decode cX1_marksOfSide 4 = .ok (.invokevirtual 93, 3) := by decide +kernel
theorem dX1_marksOfSide_7 : decode cX1_marksOfSide 7 = .ok (.istore 4, 2) := by decide +kernel
theorem dX1_marksOfSide_9 : decode cX1_marksOfSide 9 = .ok (.iload 4, 2) := by decide +kernel
theorem dX1_marksOfSide_11 : decode cX1_marksOfSide 11 = .ok (.aload_n 0, 1) := by decide +kernel
theorem dX1_marksOfSide_12 : decode cX1_marksOfSide 12 = .ok (.iload_n 1, 1) := by decide +kernel
theorem dX1_marksOfSide_13 : decode cX1_marksOfSide 13 = .ok (.invokevirtual 96, 3) := by decide +kernel
theorem dX1_marksOfSide_16 : decode cX1_marksOfSide 16 = .ok (.if_icmp .ge 29, 3) := by decide +kernel
theorem dX1_marksOfSide_19 : decode cX1_marksOfSide 19 = .ok (.aload_n 0, 1) := by decide +kernel
theorem dX1_marksOfSide_20 : decode cX1_marksOfSide 20 = .ok (.aload_n 0, 1) := by decide +kernel
theorem dX1_marksOfSide_21 : decode cX1_marksOfSide 21 = .ok (.getfield 24, 3) := by decide +kernel
theorem dX1_marksOfSide_24 : decode cX1_marksOfSide 24 = .ok (.iload 4, 2) := by decide +kernel
theorem dX1_marksOfSide_26 : decode cX1_marksOfSide 26 = .ok (.invokevirtual 66, 3) := by decide +kernel
theorem dX1_marksOfSide_29 : decode cX1_marksOfSide 29 = .ok (.iload_n 2, 1) := by decide +kernel
theorem dX1_marksOfSide_30 : decode cX1_marksOfSide 30 = .ok (.invokevirtual 115, 3) := by decide +kernel
theorem dX1_marksOfSide_33 : decode cX1_marksOfSide 33 = .ok (.ifCond .eq 6, 3) := by decide +kernel
theorem dX1_marksOfSide_36 : decode cX1_marksOfSide 36 = .ok (.iinc 3 1, 3) := by decide +kernel
theorem dX1_marksOfSide_39 : decode cX1_marksOfSide 39 = .ok (.iinc 4 1, 3) := by decide +kernel
theorem dX1_marksOfSide_42 : decode cX1_marksOfSide 42 = .ok (.goto (-33), 3) := by decide +kernel
theorem dX1_marksOfSide_45 : decode cX1_marksOfSide 45 = .ok (.iload_n 3, 1) := by decide +kernel
theorem dX1_marksOfSide_46 : decode cX1_marksOfSide 46 = .ok (.ireturn, 1) := by decide +kernel
set_option maxRecDepth 100000 in
theorem t_X1_marksOfSide_9 (G : MG) (hG : (g_l G).stackTraces = false) (d : Nat) (hd : 2 ≤ d)   (σ : MsSt)  : ∀ (n : Nat) (l0 : Nat) (l1 : Int32) (l2 : Int32) (l3 : Int32) (l4 : Int32) (h0 : ms_kd l0 = 2), TrO G mX1_marksOfSide d 0 0 0 0 (ms_ki σ) 9 [(0, .ref l0), (1, .int l1), (2, .int l2), (3, .int l3), (4, .int l4)] [] σ (f_X1_marksOfSide_9 σ n l0 l1 l2 l3 l4) := by
  intro n
  induction n with
  | zero => exact fun _ _ _ _ _ _ => tr_none
  | succ n ih =>
    intro l0 l1 l2 l3 l4 h0
    show TrO G mX1_marksOfSide d 0 0 0 0 (ms_ki σ) 9 [(0, .ref l0), (1, .int l1), (2, .int l2), (3, .int l3), (4, .int l4)] [] σ ((f_X1_endOf σ l0 l1).bind fun v2 => if l4 < v2 then (f_X5_get σ (ms_rf l0 2) l4).bind fun v3 => (f_X1_isOfSide σ l0 v3 l2).bind fun v4 => if v4 = 0 then (f_X1_marksOfSide_9 σ n) l0 l1 l2 l3 (l4 + 1) else (f_X1_marksOfSide_9 σ n) l0 l1 l2 (l3 + 1) (l4 + 1) else some l3)
    refine tr_iload (i := 4) dX1_marksOfSide_9 rfl ?_
    refine tr_aload_n (i := 0) dX1_marksOfSide_11 rfl ?_
    refine tr_iload_n (i := 1) dX1_marksOfSide_12 rfl ?_
    refine tr_c_i (ms_cV (rest := [.int l4]) (al := [.int l1]) 1 (sp_X1_endOf G hG (d - 1) (by omega) σ l0 l1 h0) h0 (by decide +kernel) kl_X1_96 fv_X1_endOf dX1_marksOfSide_13 (show _ = some 1 by decide +kernel) (by omega) (Nat.le_of_ble_eq_true rfl) (by decide) (by decide)) (fun v2 => ?_)
    refine tr_icge (o := none) (tgt := 45) dX1_marksOfSide_16 (by decide) ?_ ?_
    · refine tr_iload_n (i := 3) dX1_marksOfSide_45 rfl ?_
      exact tr_iret rfl rfl (by decide) (by decide) dX1_marksOfSide_46
    · refine tr_aload_n (i := 0) dX1_marksOfSide_19 rfl ?_
      refine tr_aload_n (i := 0) dX1_marksOfSide_20 rfl ?_
      refine tr_getR 1 h0 fl_X1_24 (by decide +kernel) dX1_marksOfSide_21 ?_
      refine tr_iload (i := 4) dX1_marksOfSide_24 rfl ?_
      refine tr_c_i (ms_cV (rest := [.ref l0]) (al := [.int l4]) 5 (sp_X5_get G hG (d - 1) (by omega) σ (ms_rf l0 2) l4 (rk_1_2 h0)) (rk_1_2 h0) (by decide +kernel) kl_X1_66 fv_X5_get dX1_marksOfSide_26 (show _ = some 1 by decide +kernel) (by omega) (Nat.le_of_ble_eq_true rfl) (by decide) (by decide)) (fun v3 => ?_)
      refine tr_iload_n (i := 2) dX1_marksOfSide_29 rfl ?_
      refine tr_c_i (ms_cV (rest := []) (al := [.int v3, .int l2]) 1 (sp_X1_isOfSide G hG (d - 1) (by omega) σ l0 v3 l2 h0) h0 (by decide +kernel) kl_X1_115 fv_X1_isOfSide dX1_marksOfSide_30 (show _ = some 2 by decide +kernel) (by omega) (Nat.le_of_ble_eq_true rfl) (by decide) (by decide)) (fun v4 => ?_)
      refine tr_ifeq (o := none) (tgt := 39) dX1_marksOfSide_33 (by decide) ?_ ?_
      · refine tr_iinc (k := 4) (v := (l4 + 1)) (lv' := [(0, .ref l0), (1, .int l1), (2, .int l2), (3, .int l3), (4, .int (l4 + 1))]) [1, 2, 3, 4, 0] dX1_marksOfSide_39 rfl rfl (by decide) rfl ?_
        refine tr_goto (tgt := 9) dX1_marksOfSide_42 (by decide) ?_
        exact (fun y0 y1 y2 y3 y4 g0 => ih y0 y1 y2 y3 y4 g0) l0 l1 l2 l3 (l4 + 1) h0
      · refine tr_iinc (k := 3) (v := (l3 + 1)) (lv' := [(0, .ref l0), (1, .int l1), (2, .int l2), (3, .int (l3 + 1)), (4, .int l4)]) [1, 2, 3, 0, 4] dX1_marksOfSide_36 rfl rfl (by decide) rfl ?_
        refine tr_iinc (k := 4) (v := (l4 + 1)) (lv' := [(0, .ref l0), (1, .int l1), (2, .int l2), (3, .int (l3 + 1)), (4, .int (l4 + 1))]) [1, 2, 3, 4, 0] dX1_marksOfSide_39 rfl rfl (by decide) rfl ?_
        refine tr_goto (tgt := 9) dX1_marksOfSide_42 (by decide) ?_
        exact (fun y0 y1 y2 y3 y4 g0 => ih y0 y1 y2 y3 y4 g0) l0 l1 l2 (l3 + 1) (l4 + 1) h0
set_option maxRecDepth 100000 in
theorem sp_X1_marksOfSide (G : MG) (hG : (g_l G).stackTraces = false) (d : Nat) (hd : 2 ≤ d)   (σ : MsSt) (l0 : Nat) (l1 : Int32) (l2 : Int32) (h0 : ms_kd l0 = 2) : MsSpec G mX1_marksOfSide d 0 0 [.ref l0, .int l1, .int l2] σ (ms_ki σ) (f_X1_marksOfSide σ l0 l1 l2) := by
  refine ms_start (by decide +kernel) rfl rfl (Nat.le_of_ble_eq_true rfl) ?_
  show TrO G mX1_marksOfSide d 0 0 0 0 (ms_ki σ) 0 [(0, .ref l0), (1, .int l1), (2, .int l2)] [] σ ((f_X1_firstMark σ l0 l1).bind fun v1 => f_X1_marksOfSide_9 σ ms_fuel l0 l1 l2 0 v1)
  refine tr_iconst (v := 0) dX1_marksOfSide_0 (by decide +kernel) ?_
  refine tr_istore_n (lv' := [(0, .ref l0), (1, .int l1), (2, .int l2), (3, .int 0)]) [1, 2, 3, 0] dX1_marksOfSide_1 (by decide) rfl ?_
  refine tr_aload_n (i := 0) dX1_marksOfSide_2 rfl ?_
  refine tr_iload_n (i := 1) dX1_marksOfSide_3 rfl ?_
  refine tr_c_i (ms_cV (rest := []) (al := [.int l1]) 1 (sp_X1_firstMark G hG (d - 1) (by omega) σ l0 l1 h0) h0 (by decide +kernel) kl_X1_93 fv_X1_firstMark dX1_marksOfSide_4 (show _ = some 1 by decide +kernel) (by omega) (Nat.le_of_ble_eq_true rfl) (by decide) (by decide)) (fun v1 => ?_)
  refine tr_istore (lv' := [(0, .ref l0), (1, .int l1), (2, .int l2), (3, .int 0), (4, .int v1)]) [1, 2, 3, 4, 0] dX1_marksOfSide_7 (by decide) rfl ?_
  exact t_X1_marksOfSide_9 G hG d hd σ ms_fuel l0 l1 l2 0 v1 h0
theorem dX1_writeWithout_0 : decode cX1_writeWithout 0 = .ok (.aload_n 0, 1) := by decide +kernel
theorem dX1_writeWithout_1 : decode cX1_writeWithout 1 = .ok (.iload_n 1, 1) := by decide +kernel
theorem dX1_writeWithout_2 : decode cX1_writeWithout 2 = .ok (.invokevirtual 93, 3) := by decide +kernel
theorem dX1_writeWithout_5 : decode cX1_writeWithout 5 = .ok (.istore 4, 2) := by decide +kernel
theorem dX1_writeWithout_7 : decode cX1_writeWithout 7 = .ok (.aload_n 0, 1) := by decide +kernel
theorem dX1_writeWithout_8 : decode cX1_writeWithout 8 = .ok (.iload_n 1, 1) := by decide +kernel
theorem dX1_writeWithout_9 : decode cX1_writeWithout 9 = .ok (.invokevirtual 96, 3) := by decide +kernel
theorem dX1_writeWithout_12 : decode cX1_writeWithout 12 = .ok (.istore 5, 2) := by decide +kernel
theorem dX1_writeWithout_14 : decode cX1_writeWithout 14 = .ok (.aload_n 3, 1) := by decide +kernel
theorem dX1_writeWithout_15 : decode cX1_writeWithout 15 = .ok (.invokevirtual 56, 3) := by decide +kernel
theorem dX1_writeWithout_18 : decode cX1_writeWithout 18 = .ok (.iconst 0, 1) := by decide +kernel
theorem dX1_writeWithout_19 : decode cX1_writeWithout 19 = .ok (.istore 6, 2) := by decide +kernel
theorem dX1_writeWithout_21 : decode cX1_writeWithout 21 = .ok (.iload 6, 2) := by decide +kernel
theorem dX1_writeWithout_23 : decode cX1_writeWithout 23 = .ok (.aload_n 0, 1) := by decide +kernel
theorem dX1_writeWithout_24 : decode cX1_writeWithout 24 = .ok (.getfield 24, 3) := by decide +kernel
theorem dX1_writeWithout_27 : decode cX1_writeWithout 27 = .ok (.getfield 46, 3) := by decide +kernel
theorem dX1_writeWithout_30 : decode cX1_writeWithout 30 = .ok (.if_icmp .ge 50, 3) := by decide +kernel
theorem dX1_writeWithout_33 : decode cX1_writeWithout 33 = .ok (.aload_n 0, 1) := by decide +kernel
theorem dX1_writeWithout_34 : decode cX1_writeWithout 34 = .ok (.getfield 24, 3) := by decide +kernel
theorem dX1_writeWithout_37 : decode cX1_writeWithout 37 = .ok (.iload 6, 2) := by decide +kernel
theorem dX1_writeWithout_39 : decode cX1_writeWithout 39 = .ok (.invokevirtual 66, 3) := by decide +kernel
theorem dX1_writeWithout_42 : decode cX1_writeWithout 42 = .ok (.istore 7, 2) := by decide +kernel
theorem dX1_writeWithout_44 : decode cX1_writeWithout 44 = .ok (.iload 6, 2) := by decide +kernel
theorem dX1_writeWithout_46 : decode cX1_writeWithout 46 = .ok (.iload 4, 2) := by decide +kernel
theorem dX1_writeWithout_48 : decode cX1_writeWithout 48 = .ok (.if_icmp .lt 20, 3) := by decide +kernel
theorem dX1_writeWithout_51 : decode cX1_writeWithout 51 = .ok (.iload 6, 2) := by decide +kernel
theorem dX1_writeWithout_53 : decode cX1_writeWithout 53 = .ok (.iload 5, 2) := by decide +kernel
theorem dX1_writeWithout_55 : decode cX1_writeWithout 55 = .ok (.if_icmp .ge 13, 3) := by decide +kernel
theorem dX1_writeWithout_58 : decode cX1_writeWithout 58 = .ok (.aload_n 0, 1) := by decide +kernel
theorem dX1_writeWithout_59 : decode cX1_writeWithout 59 = .ok (.iload 7, 2) := by decide +kernel
theorem dX1_writeWithout_61 : decode cX1_writeWithout 61 = .ok (.iload_n 2, 1) := by decide +kernel
theorem dX1_writeWithout_62 : decode cX1_writeWithout 62 = .ok (.invokevirtual 115, 3) := by decide +kernel
theorem dX1_writeWithout_65 : decode cX1_writeWithout 65 = .ok (.ifCond .ne 9, 3) := by decide +kernel
theorem dX1_writeWithout_68 : decode cX1_writeWithout 68 = .ok (.aload_n 3, 1) := by decide +kernel
theorem dX1_writeWithout_69 : decode cX1_writeWithout 69 = .ok (.iload 7, 2) := by decide +kernel
theorem dX1_writeWithout_71 : decode cX1_writeWithout 71 = .ok (.invokevirtual 63, 3) := by decide +kernel
theorem dX1_writeWithout_74 : decode cX1_writeWithout 74 = .ok (.iinc 6 1, 3) := by decide +kernel
theorem dX1_writeWithout_77 : decode cX1_writeWithout 77 = .ok (.goto (-56), 3) := by decide +kernel
theorem dX1_writeWithout_80 : decode cX1_writeWithout 80 = .ok (.return_, 1) := by decide +kernel
set_option maxRecDepth 100000 in
theorem t_X1_writeWithout_21 (G : MG) (hG : (g_l G).stackTraces = false) (d : Nat) (hd : 2 ≤ d)    : ∀ (n : Nat) (σ : MsSt) (l0 : Nat) (l2 : Int32) (l3 : Nat) (l4 : Int32) (l5 : Int32) (l6 : Int32) (h0 : ms_kd l0 = 2) (h3 : ms_kd l3 = 6), TrO G mX1_writeWithout d 0 0 0 0 ms_wv 21 [(0, .ref l0), (2, .int l2), (3, .ref l3), (4, .int l4), (5, .int l5), (6, .int l6)] [] σ (f_X1_writeWithout_21 n σ l0 l2 l3 l4 l5 l6) := by
  intro n
  induction n with
  | zero => exact fun _ _ _ _ _ _ _ _ _ => tr_none
  | succ n ih =>
    intro σ l0 l2 l3 l4 l5 l6 h0 h3
    show TrO G mX1_writeWithout d 0 0 0 0 ms_wv 21 [(0, .ref l0), (2, .int l2), (3, .ref l3), (4, .int l4), (5, .int l5), (6, .int l6)] [] σ (if l6 < (ms_i σ (ms_rf l0 2) 1) then (f_X5_get σ (ms_rf l0 2) l6).bind fun v4 => if l6 < l4 then (f_X5_add σ l3 v4).bind fun s5 => (f_X1_writeWithout_21 n) s5 l0 l2 l3 l4 l5 (l6 + 1) else if l6 < l5 then (f_X1_isOfSide σ l0 v4 l2).bind fun v7 => if v7 = 0 then (f_X5_add σ l3 v4).bind fun s8 => (f_X1_writeWithout_21 n) s8 l0 l2 l3 l4 l5 (l6 + 1) else (f_X1_writeWithout_21 n) σ l0 l2 l3 l4 l5 (l6 + 1) else (f_X5_add σ l3 v4).bind fun s6 => (f_X1_writeWithout_21 n) s6 l0 l2 l3 l4 l5 (l6 + 1) else some σ)
    refine tr_iload (i := 5) dX1_writeWithout_21 rfl ?_
    refine tr_aload_n (i := 0) dX1_writeWithout_23 rfl ?_
    refine tr_getR 1 h0 fl_X1_24 (by decide +kernel) dX1_writeWithout_24 ?_
    refine tr_getI 5 (rk_1_2 h0) fl_X1_46 (by decide +kernel) dX1_writeWithout_27 ?_
    refine tr_icge (o := none) (tgt := 80) dX1_writeWithout_30 (by decide) ?_ ?_
    · exact tr_vret rfl rfl (by decide) (by decide) dX1_writeWithout_80
    · refine tr_aload_n (i := 0) dX1_writeWithout_33 rfl ?_
      refine tr_getR 1 h0 fl_X1_24 (by decide +kernel) dX1_writeWithout_34 ?_
      refine tr_iload (i := 5) dX1_writeWithout_37 rfl ?_
      refine tr_c_i (ms_cV (rest := []) (al := [.int l6]) 5 (sp_X5_get G hG (d - 1) (by omega) σ (ms_rf l0 2) l6 (rk_1_2 h0)) (rk_1_2 h0) (by decide +kernel) kl_X1_66 fv_X5_get dX1_writeWithout_39 (show _ = some 1 by decide +kernel) (by omega) (Nat.le_of_ble_eq_true rfl) (by decide) (by decide)) (fun v4 => ?_)
      refine tr_istore (lv' := [(0, .ref l0), (2, .int l2), (3, .ref l3), (4, .int l4), (5, .int l5), (6, .int l6), (7, .int v4)]) [1, 2, 3, 4, 5, 6, 0] dX1_writeWithout_42 (by decide) rfl ?_
      refine tr_iload (i := 5) dX1_writeWithout_44 rfl ?_
      refine tr_iload (i := 3) dX1_writeWithout_46 rfl ?_
      refine tr_iclt (o := none) (tgt := 68) dX1_writeWithout_48 (by decide) ?_ ?_
      · refine tr_aload_n (i := 2) dX1_writeWithout_68 rfl ?_
        refine tr_iload (i := 6) dX1_writeWithout_69 rfl ?_
        refine tr_c_wv (ms_cV (rest := []) (al := [.int v4]) 5 (sp_X5_add G hG (d - 1) (by omega) σ l3 v4 h3) h3 (by decide +kernel) kl_X1_63 fv_X5_add dX1_writeWithout_71 (show _ = some 1 by decide +kernel) (by omega) (Nat.le_of_ble_eq_true rfl) (by decide) (by decide)) (fun s5 => ?_)
        refine tr_iinc (k := 5) (v := (l6 + 1)) (lv' := [(0, .ref l0), (2, .int l2), (3, .ref l3), (4, .int l4), (5, .int l5), (6, .int (l6 + 1))]) [1, 2, 3, 4, 5, 0] dX1_writeWithout_74 rfl rfl (by decide) rfl ?_
        refine tr_goto (tgt := 21) dX1_writeWithout_77 (by decide) ?_
        exact (fun s y0 y1 y2 y3 y4 y5 g0 g1 => ih s y0 y1 y2 y3 y4 y5 g0 g1) s5 l0 l2 l3 l4 l5 (l6 + 1) h0 h3
      · refine tr_iload (i := 5) dX1_writeWithout_51 rfl ?_
        refine tr_iload (i := 4) dX1_writeWithout_53 rfl ?_
        refine tr_icge (o := none) (tgt := 68) dX1_writeWithout_55 (by decide) ?_ ?_
        · refine tr_aload_n (i := 2) dX1_writeWithout_68 rfl ?_
          refine tr_iload (i := 6) dX1_writeWithout_69 rfl ?_
          refine tr_c_wv (ms_cV (rest := []) (al := [.int v4]) 5 (sp_X5_add G hG (d - 1) (by omega) σ l3 v4 h3) h3 (by decide +kernel) kl_X1_63 fv_X5_add dX1_writeWithout_71 (show _ = some 1 by decide +kernel) (by omega) (Nat.le_of_ble_eq_true rfl) (by decide) (by decide)) (fun s6 => ?_)
          refine tr_iinc (k := 5) (v := (l6 + 1)) (lv' := [(0, .ref l0), (2, .int l2), (3, .ref l3), (4, .int l4), (5, .int l5), (6, .int (l6 + 1))]) [1, 2, 3, 4, 5, 0] dX1_writeWithout_74 rfl rfl (by decide) rfl ?_
          refine tr_goto (tgt := 21) dX1_writeWithout_77 (by decide) ?_
          exact (fun s y0 y1 y2 y3 y4 y5 g0 g1 => ih s y0 y1 y2 y3 y4 y5 g0 g1) s6 l0 l2 l3 l4 l5 (l6 + 1) h0 h3
        · refine tr_aload_n (i := 0) dX1_writeWithout_58 rfl ?_
          refine tr_iload (i := 6) dX1_writeWithout_59 rfl ?_
          refine tr_iload_n (i := 1) dX1_writeWithout_61 rfl ?_
          refine tr_c_i (ms_cV (rest := []) (al := [.int v4, .int l2]) 1 (sp_X1_isOfSide G hG (d - 1) (by omega) σ l0 v4 l2 h0) h0 (by decide +kernel) kl_X1_115 fv_X1_isOfSide dX1_writeWithout_62 (show _ = some 2 by decide +kernel) (by omega) (Nat.le_of_ble_eq_true rfl) (by decide) (by decide)) (fun v7 => ?_)
          refine tr_ifne (o := none) (tgt := 74) dX1_writeWithout_65 (by decide) ?_ ?_
          · refine tr_iinc (k := 5) (v := (l6 + 1)) (lv' := [(0, .ref l0), (2, .int l2), (3, .ref l3), (4, .int l4), (5, .int l5), (6, .int (l6 + 1))]) [1, 2, 3, 4, 5, 0] dX1_writeWithout_74 rfl rfl (by decide) rfl ?_
            refine tr_goto (tgt := 21) dX1_writeWithout_77 (by decide) ?_
            exact (fun s y0 y1 y2 y3 y4 y5 g0 g1 => ih s y0 y1 y2 y3 y4 y5 g0 g1) σ l0 l2 l3 l4 l5 (l6 + 1) h0 h3
          · refine tr_aload_n (i := 2) dX1_writeWithout_68 rfl ?_
            refine tr_iload (i := 6) dX1_writeWithout_69 rfl ?_
            refine tr_c_wv (ms_cV (rest := []) (al := [.int v4]) 5 (sp_X5_add G hG (d - 1) (by omega) σ l3 v4 h3) h3 (by decide +kernel) kl_X1_63 fv_X5_add dX1_writeWithout_71 (show _ = some 1 by decide +kernel) (by omega) (Nat.le_of_ble_eq_true rfl) (by decide) (by decide)) (fun s8 => ?_)
            refine tr_iinc (k := 5) (v := (l6 + 1)) (lv' := [(0, .ref l0), (2, .int l2), (3, .ref l3), (4, .int l4), (5, .int l5), (6, .int (l6 + 1))]) [1, 2, 3, 4, 5, 0] dX1_writeWithout_74 rfl rfl (by decide) rfl ?_
            refine tr_goto (tgt := 21) dX1_writeWithout_77 (by decide) ?_
            exact (fun s y0 y1 y2 y3 y4 y5 g0 g1 => ih s y0 y1 y2 y3 y4 y5 g0 g1) s8 l0 l2 l3 l4 l5 (l6 + 1) h0 h3
set_option maxRecDepth 100000 in
theorem sp_X1_writeWithout (G : MG) (hG : (g_l G).stackTraces = false) (d : Nat) (hd : 2 ≤ d)   (σ : MsSt) (l0 : Nat) (l1 : Int32) (l2 : Int32) (l3 : Nat) (h0 : ms_kd l0 = 2) (h3 : ms_kd l3 = 6) : MsSpec G mX1_writeWithout d 0 0 [.ref l0, .int l1, .int l2, .ref l3] σ ms_wv (f_X1_writeWithout σ l0 l1 l2 l3) := by
  refine ms_start (by decide +kernel) rfl rfl (Nat.le_of_ble_eq_true rfl) ?_
  show TrO G mX1_writeWithout d 0 0 0 0 ms_wv 0 [(0, .ref l0), (1, .int l1), (2, .int l2), (3, .ref l3)] [] σ ((f_X1_firstMark σ l0 l1).bind fun v1 => (f_X1_endOf σ l0 l1).bind fun v2 => (f_X5_clear σ l3).bind fun s3 => f_X1_writeWithout_21 ms_fuel s3 l0 l2 l3 v1 v2 0)
  refine tr_aload_n (i := 0) dX1_writeWithout_0 rfl ?_
  refine tr_iload_n (i := 1) dX1_writeWithout_1 rfl ?_
  refine tr_c_i (ms_cV (rest := []) (al := [.int l1]) 1 (sp_X1_firstMark G hG (d - 1) (by omega) σ l0 l1 h0) h0 (by decide +kernel) kl_X1_93 fv_X1_firstMark dX1_writeWithout_2 (show _ = some 1 by decide +kernel) (by omega) (Nat.le_of_ble_eq_true rfl) (by decide) (by decide)) (fun v1 => ?_)
  refine tr_istore (lv' := [(0, .ref l0), (1, .int l1), (2, .int l2), (3, .ref l3), (4, .int v1)]) [1, 2, 3, 4, 0] dX1_writeWithout_5 (by decide) rfl ?_
  refine tr_aload_n (i := 0) dX1_writeWithout_7 rfl ?_
  refine tr_iload_n (i := 1) dX1_writeWithout_8 rfl ?_
  refine tr_c_i (ms_cV (rest := []) (al := [.int l1]) 1 (sp_X1_endOf G hG (d - 1) (by omega) σ l0 l1 h0) h0 (by decide +kernel) kl_X1_96 fv_X1_endOf dX1_writeWithout_9 (show _ = some 1 by decide +kernel) (by omega) (Nat.le_of_ble_eq_true rfl) (by decide) (by decide)) (fun v2 => ?_)
  refine tr_istore (lv' := [(0, .ref l0), (2, .int l2), (3, .ref l3), (4, .int v1), (5, .int v2)]) [1, 3, 4, 5, 0] dX1_writeWithout_12 (by decide) rfl ?_
  refine tr_aload_n (i := 2) dX1_writeWithout_14 rfl ?_
  refine tr_c_wv (ms_cV (rest := []) (al := []) 5 (sp_X5_clear G hG (d - 1) (by omega) σ l3 h3) h3 (by decide +kernel) kl_X1_56 fv_X5_clear dX1_writeWithout_15 (show _ = some 0 by decide +kernel) (by omega) (Nat.le_of_ble_eq_true rfl) (by decide) (by decide)) (fun s3 => ?_)
  refine tr_iconst (v := 0) dX1_writeWithout_18 (by decide +kernel) ?_
  refine tr_istore (lv' := [(0, .ref l0), (2, .int l2), (3, .ref l3), (4, .int v1), (5, .int v2), (6, .int 0)]) [1, 2, 3, 4, 5, 0] dX1_writeWithout_19 (by decide) rfl ?_
  exact t_X1_writeWithout_21 G hG d hd ms_fuel s3 l0 l2 l3 v1 v2 0 h0 h3
theorem dX1_hasSameSigns_0 : decode cX1_hasSameSigns 0 = .ok (.aload_n 0, 1) := by decide +kernel
theorem dX1_hasSameSigns_1 : decode cX1_hasSameSigns 1 = .ok (.getfield 30, 3) := by decide +kernel
theorem dX1_hasSameSigns_4 : decode cX1_hasSameSigns 4 = .ok (.iload_n 1, 1) := by decide +kernel
theorem dX1_hasSameSigns_5 : decode cX1_hasSameSigns 5 = .ok (.invokevirtual 66, 3) := by decide +kernel
theorem dX1_hasSameSigns_8 : decode cX1_hasSameSigns 8 = .ok (.istore 4, 2) := by decide +kernel
theorem dX1_hasSameSigns_10 : decode cX1_hasSameSigns 10 = .ok (.aload_n 2, 1) := by decide +kernel
theorem dX1_hasSameSigns_11 : decode cX1_hasSameSigns 11 = .ok (.getfield 30, 3) := by decide +kernel
theorem dX1_hasSameSigns_14 : decode cX1_hasSameSigns 14 = .ok (.iload_n 3, 1) := by decide +kernel
theorem dX1_hasSameSigns_15 : decode cX1_hasSameSigns 15 = .ok (.invokevirtual 66, 3) := by decide +kernel
theorem dX1_hasSameSigns_18 : decode cX1_hasSameSigns 18 = .ok (.istore 5, 2) := by decide +kernel
theorem dX1_hasSameSigns_20 : decode cX1_hasSameSigns 20 = .ok (.aload_n 0, 1) := by decide +kernel
theorem dX1_hasSameSigns_21 : decode cX1_hasSameSigns 21 = .ok (.iload_n 1, 1) := by decide +kernel
theorem dX1_hasSameSigns_22 : decode cX1_hasSameSigns 22 = .ok (.invokevirtual 96, 3) := by decide +kernel
theorem dX1_hasSameSigns_25 : decode cX1_hasSameSigns 25 = .ok (.iload 4, 2) := by decide +kernel
theorem dX1_hasSameSigns_27 : decode cX1_hasSameSigns 27 = .ok (.isub, 1) := by decide +kernel
theorem dX1_hasSameSigns_28 : decode cX1_hasSameSigns 28 = .ok (.istore 6, 2) := by decide +kernel
theorem dX1_hasSameSigns_30 : decode cX1_hasSameSigns 30 = .ok (.iload 6, 2) := by decide +kernel
theorem dX1_hasSameSigns_32 : decode cX1_hasSameSigns 32 = .ok (.aload_n 2, 1) := by decide +kernel
theorem dX1_hasSameSigns_33 : decode cX1_hasSameSigns 33 = .ok (.iload_n 3, 1) := by decide +kernel
theorem dX1_hasSameSigns_34 : decode cX1_hasSameSigns 34 = .ok (.invokevirtual 96, 3) := by decide +kernel
theorem dX1_hasSameSigns_37 : decode cX1_hasSameSigns 37 = .ok (.iload 5, 2) := by decide +kernel
theorem dX1_hasSameSigns_39 : decode cX1_hasSameSigns 39 = .ok (.isub, 1) := by decide +kernel
theorem dX1_hasSameSigns_40 : decode cX1_hasSameSigns 40 = .ok (.if_icmp .eq 5, 3) := by decide +kernel
theorem dX1_hasSameSigns_43 : decode cX1_hasSameSigns 43 = .ok (.iconst 0, 1) := by decide +kernel
theorem dX1_hasSameSigns_44 : decode cX1_hasSameSigns 44 = .ok (.ireturn, 1) := by decide +kernel
theorem dX1_hasSameSigns_45 : decode cX1_hasSameSigns 45 = .ok (.iconst 0, 1) := by decide +kernel
theorem dX1_hasSameSigns_46 : decode cX1_hasSameSigns 46 = .ok (.istore 7, 2) := by decide +kernel
theorem dX1_hasSameSigns_48 : decode cX1_hasSameSigns 48 = .ok (.iload 7, 2) := by decide +kernel
theorem dX1_hasSameSigns_50 : decode cX1_hasSameSigns 50 = .ok (.iload 6, 2) := by decide +kernel
theorem dX1_hasSameSigns_52 : decode cX1_hasSameSigns 52 = .ok (.if_icmp .ge 38, 3) := by decide +kernel
theorem dX1_hasSameSigns_55 : decode cX1_hasSameSigns 55 = .ok (.aload_n 0, 1) := by decide +kernel
theorem dX1_hasSameSigns_56 : decode cX1_hasSameSigns 56 = .ok (.getfield 24, 3) := by decide +kernel
theorem dX1_hasSameSigns_59 : decode cX1_hasSameSigns 59 = .ok (.iload 4, 2) := by decide +kernel
theorem dX1_hasSameSigns_61 : decode cX1_hasSameSigns 61 = .ok (.iload 7, 2) := by decide +kernel
theorem dX1_hasSameSigns_63 : decode cX1_hasSameSigns 63 = .ok (.iadd, 1) := by decide +kernel
theorem dX1_hasSameSigns_64 : decode cX1_hasSameSigns 64 = .ok (.invokevirtual 66, 3) := by decide +kernel
theorem dX1_hasSameSigns_67 : decode cX1_hasSameSigns 67 = .ok (.aload_n 2, 1) := by decide +kernel
theorem dX1_hasSameSigns_68 : decode cX1_hasSameSigns 68 = .ok (.getfield 24, 3) := by decide +kernel
theorem dX1_hasSameSigns_71 : decode cX1_hasSameSigns 71 = .ok (.iload 5, 2) := by decide +kernel
theorem dX1_hasSameSigns_73 : decode cX1_hasSameSigns 73 = .ok (.iload 7, 2) := by decide +kernel
theorem dX1_hasSameSigns_75 : decode cX1_hasSameSigns 75 = .ok (.iadd, 1) := by decide +kernel
theorem dX1_hasSameSigns_76 : decode cX1_hasSameSigns 76 = .ok (.invokevirtual 66, 3) := by decide +kernel
theorem dX1_hasSameSigns_79 : decode cX1_hasSameSigns 79 = .ok (.if_icmp .eq 5, 3) := by decide +kernel
theorem dX1_hasSameSigns_82 : decode cX1_hasSameSigns 82 = .ok (.iconst 0, 1) := by decide +kernel
theorem dX1_hasSameSigns_83 : decode cX1_hasSameSigns 83 = .ok (.ireturn, 1) := by decide +kernel
theorem dX1_hasSameSigns_84 : decode cX1_hasSameSigns 84 = .ok (.iinc 7 1, 3) := by decide +kernel
theorem dX1_hasSameSigns_87 : decode cX1_hasSameSigns 87 = .ok (.goto (-39), 3) := by decide +kernel
theorem dX1_hasSameSigns_90 : decode cX1_hasSameSigns 90 = .ok (.iconst 1, 1) := by decide +kernel
theorem dX1_hasSameSigns_91 : decode cX1_hasSameSigns 91 = .ok (.ireturn, 1) := by decide +kernel
set_option maxRecDepth 100000 in
theorem t_X1_hasSameSigns_48 (G : MG) (hG : (g_l G).stackTraces = false) (d : Nat) (hd : 2 ≤ d)   (σ : MsSt)  : ∀ (n : Nat) (l0 : Nat) (l2 : Nat) (l4 : Int32) (l5 : Int32) (l6 : Int32) (l7 : Int32) (h0 : ms_kd l0 = 2) (h2 : ms_kd l2 = 2), TrO G mX1_hasSameSigns d 0 0 0 0 (ms_ki σ) 48 [(0, .ref l0), (2, .ref l2), (4, .int l4), (5, .int l5), (6, .int l6), (7, .int l7)] [] σ (f_X1_hasSameSigns_48 σ n l0 l2 l4 l5 l6 l7) := by
  intro n
  induction n with
  | zero => exact fun _ _ _ _ _ _ _ _ => tr_none
  | succ n ih =>
    intro l0 l2 l4 l5 l6 l7 h0 h2
    show TrO G mX1_hasSameSigns d 0 0 0 0 (ms_ki σ) 48 [(0, .ref l0), (2, .ref l2), (4, .int l4), (5, .int l5), (6, .int l6), (7, .int l7)] [] σ (if l7 < l6 then (f_X5_get σ (ms_rf l0 2) (l4 + l7)).bind fun v5 => (f_X5_get σ (ms_rf l2 2) (l5 + l7)).bind fun v6 => if v5 = v6 then (f_X1_hasSameSigns_48 σ n) l0 l2 l4 l5 l6 (l7 + 1) else some 0 else some 1)
    refine tr_iload (i := 5) dX1_hasSameSigns_48 rfl ?_
    refine tr_iload (i := 4) dX1_hasSameSigns_50 rfl ?_
    refine tr_icge (o := none) (tgt := 90) dX1_hasSameSigns_52 (by decide) ?_ ?_
    · refine tr_iconst (v := 1) dX1_hasSameSigns_90 (by decide +kernel) ?_
      exact tr_zret rfl (by decide +kernel) rfl (by decide) (by decide) dX1_hasSameSigns_91
    · refine tr_aload_n (i := 0) dX1_hasSameSigns_55 rfl ?_
      refine tr_getR 1 h0 fl_X1_24 (by decide +kernel) dX1_hasSameSigns_56 ?_
      refine tr_iload (i := 2) dX1_hasSameSigns_59 rfl ?_
      refine tr_iload (i := 5) dX1_hasSameSigns_61 rfl ?_
      refine tr_iadd dX1_hasSameSigns_63 ?_
      refine tr_c_i (ms_cV (rest := []) (al := [.int (l4 + l7)]) 5 (sp_X5_get G hG (d - 1) (by omega) σ (ms_rf l0 2) (l4 + l7) (rk_1_2 h0)) (rk_1_2 h0) (by decide +kernel) kl_X1_66 fv_X5_get dX1_hasSameSigns_64 (show _ = some 1 by decide +kernel) (by omega) (Nat.le_of_ble_eq_true rfl) (by decide) (by decide)) (fun v5 => ?_)
      refine tr_aload_n (i := 1) dX1_hasSameSigns_67 rfl ?_
      refine tr_getR 1 h2 fl_X1_24 (by decide +kernel) dX1_hasSameSigns_68 ?_
      refine tr_iload (i := 3) dX1_hasSameSigns_71 rfl ?_
      refine tr_iload (i := 5) dX1_hasSameSigns_73 rfl ?_
      refine tr_iadd dX1_hasSameSigns_75 ?_
      refine tr_c_i (ms_cV (rest := [.int v5]) (al := [.int (l5 + l7)]) 5 (sp_X5_get G hG (d - 1) (by omega) σ (ms_rf l2 2) (l5 + l7) (rk_1_2 h2)) (rk_1_2 h2) (by decide +kernel) kl_X1_66 fv_X5_get dX1_hasSameSigns_76 (show _ = some 1 by decide +kernel) (by omega) (Nat.le_of_ble_eq_true rfl) (by decide) (by decide)) (fun v6 => ?_)
      refine tr_iceq (o := none) (tgt := 84) dX1_hasSameSigns_79 (by decide) ?_ ?_
      · refine tr_iinc (k := 5) (v := (l7 + 1)) (lv' := [(0, .ref l0), (2, .ref l2), (4, .int l4), (5, .int l5), (6, .int l6), (7, .int (l7 + 1))]) [1, 2, 3, 4, 5, 0] dX1_hasSameSigns_84 rfl rfl (by decide) rfl ?_
        refine tr_goto (tgt := 48) dX1_hasSameSigns_87 (by decide) ?_
        exact (fun y0 y1 y2 y3 y4 y5 g0 g1 => ih y0 y1 y2 y3 y4 y5 g0 g1) l0 l2 l4 l5 l6 (l7 + 1) h0 h2
      · refine tr_iconst (v := 0) dX1_hasSameSigns_82 (by decide +kernel) ?_
        exact tr_zret rfl (by decide +kernel) rfl (by decide) (by decide) dX1_hasSameSigns_83
set_option maxRecDepth 100000 in
theorem sp_X1_hasSameSigns (G : MG) (hG : (g_l G).stackTraces = false) (d : Nat) (hd : 2 ≤ d)   (σ : MsSt) (l0 : Nat) (l1 : Int32) (l2 : Nat) (l3 : Int32) (h0 : ms_kd l0 = 2) (h2 : ms_kd l2 = 2) : MsSpec G mX1_hasSameSigns d 0 0 [.ref l0, .int l1, .ref l2, .int l3] σ (ms_ki σ) (f_X1_hasSameSigns σ l0 l1 l2 l3) := by
  refine ms_start (by decide +kernel) rfl rfl (Nat.le_of_ble_eq_true rfl) ?_
  show TrO G mX1_hasSameSigns d 0 0 0 0 (ms_ki σ) 0 [(0, .ref l0), (1, .int l1), (2, .ref l2), (3, .int l3)] [] σ ((f_X5_get σ (ms_rf l0 4) l1).bind fun v1 => (f_X5_get σ (ms_rf l2 4) l3).bind fun v2 => (f_X1_endOf σ l0 l1).bind fun v3 => (f_X1_endOf σ l2 l3).bind fun v4 => if (v3 - v1) = (v4 - v2) then f_X1_hasSameSigns_48 σ ms_fuel l0 l2 v1 v2 (v3 - v1) 0 else some 0)
  refine tr_aload_n (i := 0) dX1_hasSameSigns_0 rfl ?_
  refine tr_getR 1 h0 fl_X1_30 (by decide +kernel) dX1_hasSameSigns_1 ?_
  refine tr_iload_n (i := 1) dX1_hasSameSigns_4 rfl ?_
  refine tr_c_i (ms_cV (rest := []) (al := [.int l1]) 5 (sp_X5_get G hG (d - 1) (by omega) σ (ms_rf l0 4) l1 (rk_1_4 h0)) (rk_1_4 h0) (by decide +kernel) kl_X1_66 fv_X5_get dX1_hasSameSigns_5 (show _ = some 1 by decide +kernel) (by omega) (Nat.le_of_ble_eq_true rfl) (by decide) (by decide)) (fun v1 => ?_)
  refine tr_istore (lv' := [(0, .ref l0), (1, .int l1), (2, .ref l2), (3, .int l3), (4, .int v1)]) [1, 2, 3, 4, 0] dX1_hasSameSigns_8 (by decide) rfl ?_
  refine tr_aload_n (i := 2) dX1_hasSameSigns_10 rfl ?_
  refine tr_getR 1 h2 fl_X1_30 (by decide +kernel) dX1_hasSameSigns_11 ?_
  refine tr_iload_n (i := 3) dX1_hasSameSigns_14 rfl ?_
  refine tr_c_i (ms_cV (rest := []) (al := [.int l3]) 5 (sp_X5_get G hG (d - 1) (by omega) σ (ms_rf l2 4) l3 (rk_1_4 h2)) (rk_1_4 h2) (by decide +kernel) kl_X1_66 fv_X5_get dX1_hasSameSigns_15 (show _ = some 1 by decide +kernel) (by omega) (Nat.le_of_ble_eq_true rfl) (by decide) (by decide)) (fun v2 => ?_)
  refine tr_istore (lv' := [(0, .ref l0), (1, .int l1), (2, .ref l2), (3, .int l3), (4, .int v1), (5, .int v2)]) [1, 2, 3, 4, 5, 0] dX1_hasSameSigns_18 (by decide) rfl ?_
  refine tr_aload_n (i := 0) dX1_hasSameSigns_20 rfl ?_
  refine tr_iload_n (i := 1) dX1_hasSameSigns_21 rfl ?_
  refine tr_c_i (ms_cV (rest := []) (al := [.int l1]) 1 (sp_X1_endOf G hG (d - 1) (by omega) σ l0 l1 h0) h0 (by decide +kernel) kl_X1_96 fv_X1_endOf dX1_hasSameSigns_22 (show _ = some 1 by decide +kernel) (by omega) (Nat.le_of_ble_eq_true rfl) (by decide) (by decide)) (fun v3 => ?_)
  refine tr_iload (i := 4) dX1_hasSameSigns_25 rfl ?_
  refine tr_isub dX1_hasSameSigns_27 ?_
  refine tr_istore (lv' := [(0, .ref l0), (2, .ref l2), (3, .int l3), (4, .int v1), (5, .int v2), (6, .int (v3 - v1))]) [1, 3, 4, 5, 6, 0] dX1_hasSameSigns_28 (by decide) rfl ?_
  refine tr_iload (i := 5) dX1_hasSameSigns_30 rfl ?_
  refine tr_aload_n (i := 1) dX1_hasSameSigns_32 rfl ?_
  refine tr_iload_n (i := 2) dX1_hasSameSigns_33 rfl ?_
  refine tr_c_i (ms_cV (rest := [.int (v3 - v1)]) (al := [.int l3]) 1 (sp_X1_endOf G hG (d - 1) (by omega) σ l2 l3 h2) h2 (by decide +kernel) kl_X1_96 fv_X1_endOf dX1_hasSameSigns_34 (show _ = some 1 by decide +kernel) (by omega) (Nat.le_of_ble_eq_true rfl) (by decide) (by decide)) (fun v4 => ?_)
  refine tr_iload (i := 4) dX1_hasSameSigns_37 rfl ?_
  refine tr_isub dX1_hasSameSigns_39 ?_
  refine tr_iceq (o := none) (tgt := 45) dX1_hasSameSigns_40 (by decide) ?_ ?_
  · refine tr_iconst (v := 0) dX1_hasSameSigns_45 (by decide +kernel) ?_
    refine tr_istore (lv' := [(0, .ref l0), (2, .ref l2), (4, .int v1), (5, .int v2), (6, .int (v3 - v1)), (7, .int 0)]) [1, 2, 4, 5, 6, 0] dX1_hasSameSigns_46 (by decide) rfl ?_
    exact t_X1_hasSameSigns_48 G hG d hd σ ms_fuel l0 l2 v1 v2 (v3 - v1) 0 h0 h2
  · refine tr_iconst (v := 0) dX1_hasSameSigns_43 (by decide +kernel) ?_
    exact tr_zret rfl (by decide +kernel) rfl (by decide) (by decide) dX1_hasSameSigns_44
theorem dX1_isFoundAt_0 : decode cX1_isFoundAt 0 = .ok (.iload_n 3, 1) := by decide +kernel
theorem dX1_isFoundAt_1 : decode cX1_isFoundAt 1 = .ok (.aload_n 1, 1) := by decide +kernel
theorem dX1_isFoundAt_2 : decode cX1_isFoundAt 2 = .ok (.getfield 30, 3) := by decide +kernel
theorem dX1_isFoundAt_5 : decode cX1_isFoundAt 5 = .ok (.getfield 46, 3) := by decide +kernel
theorem dX1_isFoundAt_8 : decode cX1_isFoundAt 8 = .ok (.iadd, 1) := by decide +kernel
theorem dX1_isFoundAt_9 : decode cX1_isFoundAt 9 = .ok (.aload_n 0, 1) := by decide +kernel
theorem dX1_isFoundAt_10 : decode cX1_isFoundAt 10 = .ok (.getfield 30, 3) := by decide +kernel
theorem dX1_isFoundAt_13 : decode cX1_isFoundAt 13 = .ok (.getfield 46, 3) := by decide +kernel
theorem dX1_isFoundAt_16 : decode cX1_isFoundAt 16 = .ok (.if_icmp .le 5, 3) := by decide +kernel
theorem dX1_isFoundAt_19 : decode cX1_isFoundAt 19 = .ok (.iconst 0, 1) := by decide +kernel
theorem dX1_isFoundAt_20 : decode cX1_isFoundAt 20 = .ok (.ireturn, 1) := by decide +kernel
theorem dX1_isFoundAt_21 : decode cX1_isFoundAt 21 = .ok (.iconst 0, 1) := by decide +kernel
theorem dX1_isFoundAt_22 : decode cX1_isFoundAt 22 = .ok (.istore 4, 2) := by decide +kernel
theorem dX1_isFoundAt_24 : decode cX1_isFoundAt 24 = .ok (.iload 4, 2) := by decide +kernel
theorem dX1_isFoundAt_26 : decode cX1_isFoundAt 26 = .ok (.aload_n 1, 1) := by decide +kernel
theorem dX1_isFoundAt_27 : decode cX1_isFoundAt 27 = .ok (.getfield 30, 3) := by decide +kernel
theorem dX1_isFoundAt_30 : decode cX1_isFoundAt 30 = .ok (.getfield 46, 3) := by decide +kernel
theorem dX1_isFoundAt_33 : decode cX1_isFoundAt 33 = .ok (.if_icmp .ge 64, 3) := by decide +kernel
theorem dX1_isFoundAt_36 : decode cX1_isFoundAt 36 = .ok (.iload_n 2, 1) := by decide +kernel
theorem dX1_isFoundAt_37 : decode cX1_isFoundAt 37 = .ok (.ifCond .eq 34, 3) := by decide +kernel
theorem dX1_isFoundAt_40 : decode cX1_isFoundAt 40 = .ok (.aload_n 0, 1) := by decide +kernel
theorem dX1_isFoundAt_41 : decode cX1_isFoundAt 41 = .ok (.getfield 33, 3) := by decide +kernel
theorem dX1_isFoundAt_44 : decode cX1_isFoundAt 44 = .ok (.iload_n 3, 1) := by decide +kernel
theorem dX1_isFoundAt_45 : decode cX1_isFoundAt 45 = .ok (.iload 4, 2) := by decide +kernel
theorem dX1_isFoundAt_47 : decode cX1_isFoundAt 47 = .ok (.iadd, 1) := by decide +kernel
theorem dX1_isFoundAt_48 : decode cX1_isFoundAt 48 = .ok (.invokevirtual 66, 3) := by decide +kernel
theorem dX1_isFoundAt_51 : decode cX1_isFoundAt 51 = .ok (.aload_n 1, 1) := by decide +kernel
theorem dX1_isFoundAt_52 : decode cX1_isFoundAt 52 = .ok (.getfield 33, 3) := by decide +kernel
theorem dX1_isFoundAt_55 : decode cX1_isFoundAt 55 = .ok (.iload 4, 2) := by decide +kernel
theorem dX1_isFoundAt_57 : decode cX1_isFoundAt 57 = .ok (.invokevirtual 66, 3) := by decide +kernel
theorem dX1_isFoundAt_60 : decode cX1_isFoundAt 60 = .ok (.if_icmp .ne 7, 3) := by decide +kernel
theorem dX1_isFoundAt_63 : decode cX1_isFoundAt 63 = .ok (.iconst 1, 1) := by decide +kernel
theorem dX1_isFoundAt_64 : decode cX1_isFoundAt 64 = .ok (.goto 18, 3) := by decide +kernel
theorem dX1_isFoundAt_67 : decode cX1_isFoundAt 67 = .ok (.iconst 0, 1) := by decide +kernel
theorem dX1_isFoundAt_68 : decode cX1_isFoundAt 68 = .ok (.goto 14, 3) := by decide +kernel
theorem dX1_isFoundAt_71 : decode cX1_isFoundAt 71 = .ok (.aload_n 0, 1) := by decide +kernel
theorem dX1_isFoundAt_72 : decode cX1_isFoundAt 72 = .ok (.iload_n 3, 1) := by decide +kernel
theorem dX1_isFoundAt_73 : decode cX1_isFoundAt 73 = .ok (.iload 4, 2) := by decide +kernel
theorem dX1_isFoundAt_75 : decode cX1_isFoundAt 75 = .ok (.iadd, 1) := by decide +kernel
theorem dX1_isFoundAt_76 : decode cX1_isFoundAt 76 = .ok (.aload_n 1, 1) := by decide +kernel
theorem dX1_isFoundAt_77 : decode cX1_isFoundAt 77 = .ok (.iload 4, 2) := by decide +kernel
theorem dX1_isFoundAt_79 : decode cX1_isFoundAt 79 = .ok (.invokevirtual 119, 3) := by decide +kernel
theorem dX1_isFoundAt_82 : decode cX1_isFoundAt 82 = .ok (.istore 5, 2) := by decide +kernel
theorem dX1_isFoundAt_84 : decode cX1_isFoundAt 84 = .ok (.iload 5, 2) := by decide +kernel
theorem dX1_isFoundAt_86 : decode cX1_isFoundAt 86 = .ok (.ifCond .ne 5, 3) := by decide +kernel
theorem dX1_isFoundAt_89 : decode cX1_isFoundAt 89 = .ok (.iconst 0, 1) := by decide +kernel
theorem dX1_isFoundAt_90 : decode cX1_isFoundAt 90 = .ok (.ireturn, 1) := by decide +kernel
theorem dX1_isFoundAt_91 : decode cX1_isFoundAt 91 = .ok (.iinc 4 1, 3) := by decide +kernel
theorem dX1_isFoundAt_94 : decode cX1_isFoundAt 94 = .ok (.goto (-70), 3) := by decide +kernel
theorem dX1_isFoundAt_97 : decode cX1_isFoundAt 97 = .ok (.iconst 1, 1) := by decide +kernel
theorem dX1_isFoundAt_98 : decode cX1_isFoundAt 98 = .ok (.ireturn, 1) := by decide +kernel
set_option maxRecDepth 100000 in
theorem t_X1_isFoundAt_24 (G : MG) (hG : (g_l G).stackTraces = false) (d : Nat) (hd : 3 ≤ d)   (σ : MsSt)  : ∀ (n : Nat) (l0 : Nat) (l1 : Nat) (l2 : Int32) (l3 : Int32) (l4 : Int32) (h0 : ms_kd l0 = 2) (h1 : ms_kd l1 = 2), TrO G mX1_isFoundAt d 0 0 0 0 (ms_ki σ) 24 [(0, .ref l0), (1, .ref l1), (2, .int l2), (3, .int l3), (4, .int l4)] [] σ (f_X1_isFoundAt_24 σ n l0 l1 l2 l3 l4) := by
  intro n
  induction n with
  | zero => exact fun _ _ _ _ _ _ _ => tr_none
  | succ n ih =>
    intro l0 l1 l2 l3 l4 h0 h1
    show TrO G mX1_isFoundAt d 0 0 0 0 (ms_ki σ) 24 [(0, .ref l0), (1, .ref l1), (2, .int l2), (3, .int l3), (4, .int l4)] [] σ (if l4 < (ms_i σ (ms_rf l1 4) 1) then if l2 = 0 then (f_X1_hasSameSigns σ l0 (l3 + l4) l1 l4).bind fun v1 => if v1 = 0 then some 0 else (f_X1_isFoundAt_24 σ n) l0 l1 l2 l3 (l4 + 1) else (f_X5_get σ (ms_rf l0 5) (l3 + l4)).bind fun v2 => (f_X5_get σ (ms_rf l1 5) l4).bind fun v3 => if v2 = v3 then if (1 : Int32) = 0 then some 0 else (f_X1_isFoundAt_24 σ n) l0 l1 l2 l3 (l4 + 1) else if (0 : Int32) = 0 then some 0 else (f_X1_isFoundAt_24 σ n) l0 l1 l2 l3 (l4 + 1) else some 1)
    refine tr_iload (i := 4) dX1_isFoundAt_24 rfl ?_
    refine tr_aload_n (i := 1) dX1_isFoundAt_26 rfl ?_
    refine tr_getR 1 h1 fl_X1_30 (by decide +kernel) dX1_isFoundAt_27 ?_
    refine tr_getI 5 (rk_1_4 h1) fl_X1_46 (by decide +kernel) dX1_isFoundAt_30 ?_
    refine tr_icge (o := none) (tgt := 97) dX1_isFoundAt_33 (by decide) ?_ ?_
    · refine tr_iconst (v := 1) dX1_isFoundAt_97 (by decide +kernel) ?_
      exact tr_zret rfl (by decide +kernel) rfl (by decide) (by decide) dX1_isFoundAt_98
    · refine tr_iload_n (i := 2) dX1_isFoundAt_36 rfl ?_
      refine tr_ifeq (o := none) (tgt := 71) dX1_isFoundAt_37 (by decide) ?_ ?_
      · refine tr_aload_n (i := 0) dX1_isFoundAt_71 rfl ?_
        refine tr_iload_n (i := 3) dX1_isFoundAt_72 rfl ?_
        refine tr_iload (i := 4) dX1_isFoundAt_73 rfl ?_
        refine tr_iadd dX1_isFoundAt_75 ?_
        refine tr_aload_n (i := 1) dX1_isFoundAt_76 rfl ?_
        refine tr_iload (i := 4) dX1_isFoundAt_77 rfl ?_
        refine tr_c_i (ms_cV (rest := []) (al := [.int (l3 + l4), .ref l1, .int l4]) 1 (sp_X1_hasSameSigns G hG (d - 1) (by omega) σ l0 (l3 + l4) l1 l4 h0 h1) h0 (by decide +kernel) kl_X1_119 fv_X1_hasSameSigns dX1_isFoundAt_79 (show _ = some 3 by decide +kernel) (by omega) (Nat.le_of_ble_eq_true rfl) (by decide) (by decide)) (fun v1 => ?_)
        refine tr_istore (lv' := [(0, .ref l0), (1, .ref l1), (2, .int l2), (3, .int l3), (4, .int l4), (5, .int v1)]) [1, 2, 3, 4, 5, 0] dX1_isFoundAt_82 (by decide) rfl ?_
        refine tr_iload (i := 5) dX1_isFoundAt_84 rfl ?_
        refine tr_ifne (o := none) (tgt := 91) dX1_isFoundAt_86 (by decide) ?_ ?_
        · refine tr_iinc (k := 4) (v := (l4 + 1)) (lv' := [(0, .ref l0), (1, .ref l1), (2, .int l2), (3, .int l3), (4, .int (l4 + 1))]) [1, 2, 3, 4, 0] dX1_isFoundAt_91 rfl rfl (by decide) rfl ?_
          refine tr_goto (tgt := 24) dX1_isFoundAt_94 (by decide) ?_
          exact (fun y0 y1 y2 y3 y4 g0 g1 => ih y0 y1 y2 y3 y4 g0 g1) l0 l1 l2 l3 (l4 + 1) h0 h1
        · refine tr_iconst (v := 0) dX1_isFoundAt_89 (by decide +kernel) ?_
          exact tr_zret rfl (by decide +kernel) rfl (by decide) (by decide) dX1_isFoundAt_90
      · refine tr_aload_n (i := 0) dX1_isFoundAt_40 rfl ?_
        refine tr_getR 1 h0 fl_X1_33 (by decide +kernel) dX1_isFoundAt_41 ?_
        refine tr_iload_n (i := 3) dX1_isFoundAt_44 rfl ?_
        refine tr_iload (i := 4) dX1_isFoundAt_45 rfl ?_
        refine tr_iadd dX1_isFoundAt_47 ?_
        refine tr_c_i (ms_cV (rest := []) (al := [.int (l3 + l4)]) 5 (sp_X5_get G hG (d - 1) (by omega) σ (ms_rf l0 5) (l3 + l4) (rk_1_5 h0)) (rk_1_5 h0) (by decide +kernel) kl_X1_66 fv_X5_get dX1_isFoundAt_48 (show _ = some 1 by decide +kernel) (by omega) (Nat.le_of_ble_eq_true rfl) (by decide) (by decide)) (fun v2 => ?_)
        refine tr_aload_n (i := 1) dX1_isFoundAt_51 rfl ?_
        refine tr_getR 1 h1 fl_X1_33 (by decide +kernel) dX1_isFoundAt_52 ?_
        refine tr_iload (i := 4) dX1_isFoundAt_55 rfl ?_
        refine tr_c_i (ms_cV (rest := [.int v2]) (al := [.int l4]) 5 (sp_X5_get G hG (d - 1) (by omega) σ (ms_rf l1 5) l4 (rk_1_5 h1)) (rk_1_5 h1) (by decide +kernel) kl_X1_66 fv_X5_get dX1_isFoundAt_57 (show _ = some 1 by decide +kernel) (by omega) (Nat.le_of_ble_eq_true rfl) (by decide) (by decide)) (fun v3 => ?_)
        refine tr_icne (o := none) (tgt := 67) dX1_isFoundAt_60 (by decide) ?_ ?_
        · refine tr_iconst (v := 0) dX1_isFoundAt_67 (by decide +kernel) ?_
          refine tr_goto (tgt := 82) dX1_isFoundAt_68 (by decide) ?_
          refine tr_istore (lv' := [(0, .ref l0), (1, .ref l1), (2, .int l2), (3, .int l3), (4, .int l4), (5, .int 0)]) [1, 2, 3, 4, 5, 0] dX1_isFoundAt_82 (by decide) rfl ?_
          refine tr_iload (i := 5) dX1_isFoundAt_84 rfl ?_
          refine tr_ifne (o := none) (tgt := 91) dX1_isFoundAt_86 (by decide) ?_ ?_
          · refine tr_iinc (k := 4) (v := (l4 + 1)) (lv' := [(0, .ref l0), (1, .ref l1), (2, .int l2), (3, .int l3), (4, .int (l4 + 1))]) [1, 2, 3, 4, 0] dX1_isFoundAt_91 rfl rfl (by decide) rfl ?_
            refine tr_goto (tgt := 24) dX1_isFoundAt_94 (by decide) ?_
            exact (fun y0 y1 y2 y3 y4 g0 g1 => ih y0 y1 y2 y3 y4 g0 g1) l0 l1 l2 l3 (l4 + 1) h0 h1
          · refine tr_iconst (v := 0) dX1_isFoundAt_89 (by decide +kernel) ?_
            exact tr_zret rfl (by decide +kernel) rfl (by decide) (by decide) dX1_isFoundAt_90
        · refine tr_iconst (v := 1) dX1_isFoundAt_63 (by decide +kernel) ?_
          refine tr_goto (tgt := 82) dX1_isFoundAt_64 (by decide) ?_
          refine tr_istore (lv' := [(0, .ref l0), (1, .ref l1), (2, .int l2), (3, .int l3), (4, .int l4), (5, .int 1)]) [1, 2, 3, 4, 5, 0] dX1_isFoundAt_82 (by decide) rfl ?_
          refine tr_iload (i := 5) dX1_isFoundAt_84 rfl ?_
          refine tr_ifne (o := none) (tgt := 91) dX1_isFoundAt_86 (by decide) ?_ ?_
          · refine tr_iinc (k := 4) (v := (l4 + 1)) (lv' := [(0, .ref l0), (1, .ref l1), (2, .int l2), (3, .int l3), (4, .int (l4 + 1))]) [1, 2, 3, 4, 0] dX1_isFoundAt_91 rfl rfl (by decide) rfl ?_
            refine tr_goto (tgt := 24) dX1_isFoundAt_94 (by decide) ?_
            exact (fun y0 y1 y2 y3 y4 g0 g1 => ih y0 y1 y2 y3 y4 g0 g1) l0 l1 l2 l3 (l4 + 1) h0 h1
          · refine tr_iconst (v := 0) dX1_isFoundAt_89 (by decide +kernel) ?_
            exact tr_zret rfl (by decide +kernel) rfl (by decide) (by decide) dX1_isFoundAt_90
set_option maxRecDepth 100000 in
theorem sp_X1_isFoundAt (G : MG) (hG : (g_l G).stackTraces = false) (d : Nat) (hd : 3 ≤ d)   (σ : MsSt) (l0 : Nat) (l1 : Nat) (l2 : Int32) (l3 : Int32) (h0 : ms_kd l0 = 2) (h1 : ms_kd l1 = 2) : MsSpec G mX1_isFoundAt d 0 0 [.ref l0, .ref l1, .int l2, .int l3] σ (ms_ki σ) (f_X1_isFoundAt σ l0 l1 l2 l3) := by
  refine ms_start (by decide +kernel) rfl rfl (Nat.le_of_ble_eq_true rfl) ?_
  show TrO G mX1_isFoundAt d 0 0 0 0 (ms_ki σ) 0 [(0, .ref l0), (1, .ref l1), (2, .int l2), (3, .int l3)] [] σ (if (ms_i σ (ms_rf l0 4) 1) < (l3 + (ms_i σ (ms_rf l1 4) 1)) then some 0 else f_X1_isFoundAt_24 σ ms_fuel l0 l1 l2 l3 0)
  refine tr_iload_n (i := 3) dX1_isFoundAt_0 rfl ?_
  refine tr_aload_n (i := 1) dX1_isFoundAt_1 rfl ?_
  refine tr_getR 1 h1 fl_X1_30 (by decide +kernel) dX1_isFoundAt_2 ?_
  refine tr_getI 5 (rk_1_4 h1) fl_X1_46 (by decide +kernel) dX1_isFoundAt_5 ?_
  refine tr_iadd dX1_isFoundAt_8 ?_
  refine tr_aload_n (i := 0) dX1_isFoundAt_9 rfl ?_
  refine tr_getR 1 h0 fl_X1_30 (by decide +kernel) dX1_isFoundAt_10 ?_
  refine tr_getI 5 (rk_1_4 h0) fl_X1_46 (by decide +kernel) dX1_isFoundAt_13 ?_
  refine tr_icle (o := none) (tgt := 21) dX1_isFoundAt_16 (by decide) ?_ ?_
  · refine tr_iconst (v := 0) dX1_isFoundAt_21 (by decide +kernel) ?_
    refine tr_istore (lv' := [(0, .ref l0), (1, .ref l1), (2, .int l2), (3, .int l3), (4, .int 0)]) [1, 2, 3, 4, 0] dX1_isFoundAt_22 (by decide) rfl ?_
    exact t_X1_isFoundAt_24 G hG d hd σ ms_fuel l0 l1 l2 l3 0 h0 h1
  · refine tr_iconst (v := 0) dX1_isFoundAt_19 (by decide +kernel) ?_
    exact tr_zret rfl (by decide +kernel) rfl (by decide) (by decide) dX1_isFoundAt_20
