/-! X5: the bytecode does what the functions say (by program: wip/whole/gen) -/
theorem dX5_get_0 : decode cX5_get 0 = .ok (.iload_n 1, 1) := by decide +kernel
theorem dX5_get_1 : decode cX5_get 1 = .ok (.ifCond .lt 29, 3) := by decide +kernel
theorem dX5_get_4 : decode cX5_get 4 = .ok (.iload_n 1, 1) := by decide +kernel
theorem dX5_get_5 : decode cX5_get 5 = .ok (.aload_n 0, 1) := by decide +kernel
theorem dX5_get_6 : decode cX5_get 6 = .ok (.getfield 21, 3) := by decide +kernel
theorem dX5_get_9 : decode cX5_get 9 = .ok (.if_icmp .ge 21, 3) := by decide +kernel
theorem dX5_get_12 : decode cX5_get 12 = .ok (.iload_n 1, 1) := by decide +kernel
theorem dX5_get_13 : decode cX5_get 13 = .ok (.aload_n 0, 1) := by decide +kernel
theorem dX5_get_14 : decode cX5_get 14 = .ok (.getfield 15, 3) := by decide +kernel
theorem dX5_get_17 : decode cX5_get 17 = .ok (.arraylength, 1) := by decide +kernel
theorem dX5_get_18 : decode cX5_get 18 = .ok (.if_icmp .ge 12, 3) := by decide +kernel
theorem dX5_get_21 : decode cX5_get 21 = .ok (.aload_n 0, 1) := by decide +kernel
theorem dX5_get_22 : decode cX5_get 22 = .ok (.getfield 15, 3) := by decide +kernel
theorem dX5_get_25 : decode cX5_get 25 = .ok (.iload_n 1, 1) := by decide +kernel
theorem dX5_get_26 : decode cX5_get 26 = .ok (.iaload, 1) := by decide +kernel
theorem dX5_get_27 : decode cX5_get 27 = .ok (.goto 4, 3) := by decide +kernel
theorem dX5_get_30 : decode cX5_get 30 = .ok (.iconst (-1), 1) := by decide +kernel
theorem dX5_get_31 : decode cX5_get 31 = .ok (.ireturn, 1) := by decide +kernel
set_option maxRecDepth 100000 in
theorem sp_X5_get (G : MG) (hG : (g_l G).stackTraces = false) (d : Nat) (hd : 0 ≤ d)   (σ : MsSt) (l0 : Nat) (l1 : Int32) (h0 : ms_kd l0 = 6) : MsSpec G mX5_get d 0 0 [.ref l0, .int l1] σ (ms_ki σ) (f_X5_get σ l0 l1) := by
  refine ms_start (by decide +kernel) rfl rfl (Nat.le_of_ble_eq_true rfl) ?_
  show TrO G mX5_get d 0 0 0 0 (ms_ki σ) 0 [(0, .ref l0), (1, .int l1)] [] σ (if l1 < 0 then some (-1) else if l1 < (ms_i σ l0 1) then if l1 < (Int32.ofNat (ms_ln (ms_rf l0 0))) then (ms_ald σ (ms_rf l0 0) l1).bind fun v1 => some v1 else some (-1) else some (-1))
  refine tr_iload_n (i := 1) dX5_get_0 rfl ?_
  refine tr_iflt (o := none) (tgt := 30) dX5_get_1 (by decide) ?_ ?_
  · refine tr_iconst (v := (-1)) dX5_get_30 (by decide +kernel) ?_
    exact tr_iret rfl rfl (by decide) (by decide) dX5_get_31
  · refine tr_iload_n (i := 1) dX5_get_4 rfl ?_
    refine tr_aload_n (i := 0) dX5_get_5 rfl ?_
    refine tr_getI 5 h0 fl_X5_21 (by decide +kernel) dX5_get_6 ?_
    refine tr_icge (o := none) (tgt := 30) dX5_get_9 (by decide) ?_ ?_
    · refine tr_iconst (v := (-1)) dX5_get_30 (by decide +kernel) ?_
      exact tr_iret rfl rfl (by decide) (by decide) dX5_get_31
    · refine tr_iload_n (i := 1) dX5_get_12 rfl ?_
      refine tr_aload_n (i := 0) dX5_get_13 rfl ?_
      refine tr_getR 5 h0 fl_X5_15 (by decide +kernel) dX5_get_14 ?_
      refine tr_len 0 (rk_5_0 h0) (by decide) dX5_get_17 ?_
      refine tr_icge (o := none) (tgt := 30) dX5_get_18 (by decide) ?_ ?_
      · refine tr_iconst (v := (-1)) dX5_get_30 (by decide +kernel) ?_
        exact tr_iret rfl rfl (by decide) (by decide) dX5_get_31
      · refine tr_aload_n (i := 0) dX5_get_21 rfl ?_
        refine tr_getR 5 h0 fl_X5_15 (by decide +kernel) dX5_get_22 ?_
        refine tr_iload_n (i := 1) dX5_get_25 rfl ?_
        refine tr_ald (rk_5_0 h0) dX5_get_26 (fun v1 => ?_)
        refine tr_goto (tgt := 31) dX5_get_27 (by decide) ?_
        exact tr_iret rfl rfl (by decide) (by decide) dX5_get_31
theorem dX5_clear_0 : decode cX5_clear 0 = .ok (.aload_n 0, 1) := by decide +kernel
theorem dX5_clear_1 : decode cX5_clear 1 = .ok (.iconst 0, 1) := by decide +kernel
theorem dX5_clear_2 : decode cX5_clear 2 = .ok (.putfield 21, 3) := by decide +kernel
theorem dX5_clear_5 : decode cX5_clear 5 = .ok (.return_, 1) := by decide +kernel
set_option maxRecDepth 100000 in
theorem sp_X5_clear (G : MG) (hG : (g_l G).stackTraces = false) (d : Nat) (hd : 0 ≤ d)   (σ : MsSt) (l0 : Nat) (h0 : ms_kd l0 = 6) : MsSpec G mX5_clear d 0 0 [.ref l0] σ ms_wv (f_X5_clear σ l0) := by
  refine ms_start (by decide +kernel) rfl rfl (Nat.le_of_ble_eq_true rfl) ?_
  show TrO G mX5_clear d 0 0 0 0 ms_wv 0 [(0, .ref l0)] [] σ (ms_nm (ms_si σ l0 1 0) fun s1 => some s1)
  refine tr_aload_n (i := 0) dX5_clear_0 rfl ?_
  refine tr_iconst (v := 0) dX5_clear_1 (by decide +kernel) ?_
  refine tr_putI 5 h0 fl_X5_21 (by decide +kernel) dX5_clear_2 ?_
  refine ms_ltS (fun s1 => ?_)
  exact tr_vret rfl rfl (by decide) (by decide) dX5_clear_5
theorem dX5_add_0 : decode cX5_add 0 = .ok (.aload_n 0, 1) := by decide +kernel
theorem dX5_add_1 : decode cX5_add 1 = .ok (.getfield 21, 3) := by decide +kernel
theorem dX5_add_4 : decode cX5_add 4 = .ok (.ifCond .lt 35, 3) := by decide +kernel
theorem dX5_add_7 : decode cX5_add 7 = .ok (.aload_n 0, 1) := by decide +kernel
theorem dX5_add_8 : decode cX5_add 8 = .ok (.getfield 21, 3) := by decide +kernel
theorem dX5_add_11 : decode cX5_add 11 = .ok (.aload_n 0, 1) := by decide +kernel
theorem dX5_add_12 : decode cX5_add 12 = .ok (.getfield 15, 3) := by decide +kernel
theorem dX5_add_15 : decode cX5_add 15 = .ok (.arraylength, 1) := by decide +kernel
theorem dX5_add_16 : decode cX5_add 16 = .ok (.if_icmp .ge 23, 3) := by decide +kernel
theorem dX5_add_19 : decode cX5_add 19 = .ok (.aload_n 0, 1) := by decide +kernel
theorem dX5_add_20 : decode cX5_add 20 = .ok (.getfield 15, 3) := by decide +kernel
theorem dX5_add_23 : decode cX5_add 23 = .ok (.aload_n 0, 1) := by decide +kernel
theorem dX5_add_24 : decode cX5_add 24 = .ok (.getfield 21, 3) := by decide +kernel
theorem dX5_add_27 : decode cX5_add 27 = .ok (.iload_n 1, 1) := by decide +kernel
theorem dX5_add_28 : decode cX5_add 28 = .ok (.iastore, 1) := by decide +kernel
theorem dX5_add_29 : decode cX5_add 29 = .ok (.aload_n 0, 1) := by decide +kernel
theorem dX5_add_30 : decode cX5_add 30 = .ok (.dup, 1) := by decide +kernel
theorem dX5_add_31 : decode cX5_add 31 = .ok (.getfield 21, 3) := by decide +kernel
theorem dX5_add_34 : decode cX5_add 34 = .ok (.iconst 1, 1) := by decide +kernel
theorem dX5_add_35 : decode cX5_add 35 = .ok (.iadd, 1) := by decide +kernel
theorem dX5_add_36 : decode cX5_add 36 = .ok (.putfield 21, 3) := by decide +kernel
theorem dX5_add_39 : decode cX5_add 39 = .ok (.return_, 1) := by decide +kernel
set_option maxRecDepth 100000 in
theorem sp_X5_add (G : MG) (hG : (g_l G).stackTraces = false) (d : Nat) (hd : 0 ≤ d)   (σ : MsSt) (l0 : Nat) (l1 : Int32) (h0 : ms_kd l0 = 6) : MsSpec G mX5_add d 0 0 [.ref l0, .int l1] σ ms_wv (f_X5_add σ l0 l1) := by
  refine ms_start (by decide +kernel) rfl rfl (Nat.le_of_ble_eq_true rfl) ?_
  show TrO G mX5_add d 0 0 0 0 ms_wv 0 [(0, .ref l0), (1, .int l1)] [] σ (if (ms_i σ l0 1) < 0 then some σ else if (ms_i σ l0 1) < (Int32.ofNat (ms_ln (ms_rf l0 0))) then (ms_ast σ (ms_rf l0 0) (ms_i σ l0 1) l1).bind fun s1 => ms_nm (ms_si s1 l0 1 ((ms_i s1 l0 1) + 1)) fun s2 => some s2 else some σ)
  refine tr_aload_n (i := 0) dX5_add_0 rfl ?_
  refine tr_getI 5 h0 fl_X5_21 (by decide +kernel) dX5_add_1 ?_
  refine tr_iflt (o := none) (tgt := 39) dX5_add_4 (by decide) ?_ ?_
  · exact tr_vret rfl rfl (by decide) (by decide) dX5_add_39
  · refine tr_aload_n (i := 0) dX5_add_7 rfl ?_
    refine tr_getI 5 h0 fl_X5_21 (by decide +kernel) dX5_add_8 ?_
    refine tr_aload_n (i := 0) dX5_add_11 rfl ?_
    refine tr_getR 5 h0 fl_X5_15 (by decide +kernel) dX5_add_12 ?_
    refine tr_len 0 (rk_5_0 h0) (by decide) dX5_add_15 ?_
    refine tr_icge (o := none) (tgt := 39) dX5_add_16 (by decide) ?_ ?_
    · exact tr_vret rfl rfl (by decide) (by decide) dX5_add_39
    · refine tr_aload_n (i := 0) dX5_add_19 rfl ?_
      refine tr_getR 5 h0 fl_X5_15 (by decide +kernel) dX5_add_20 ?_
      refine tr_aload_n (i := 0) dX5_add_23 rfl ?_
      refine tr_getI 5 h0 fl_X5_21 (by decide +kernel) dX5_add_24 ?_
      refine tr_iload_n (i := 1) dX5_add_27 rfl ?_
      refine tr_ast (rk_5_0 h0) dX5_add_28 (fun s1 => ?_)
      refine tr_aload_n (i := 0) dX5_add_29 rfl ?_
      refine tr_dup dX5_add_30 rfl ?_
      refine tr_getI 5 h0 fl_X5_21 (by decide +kernel) dX5_add_31 ?_
      refine tr_iconst (v := 1) dX5_add_34 (by decide +kernel) ?_
      refine tr_iadd dX5_add_35 ?_
      refine tr_putI 5 h0 fl_X5_21 (by decide +kernel) dX5_add_36 ?_
      refine ms_ltS (fun s2 => ?_)
      exact tr_vret rfl rfl (by decide) (by decide) dX5_add_39
theorem dX5_addAll_0 : decode cX5_addAll 0 = .ok (.aload_n 1, 1) := by decide +kernel
theorem dX5_addAll_1 : decode cX5_addAll 1 = .ok (.getfield 21, 3) := by decide +kernel
theorem dX5_addAll_4 : decode cX5_addAll 4 = .ok (.istore_n 2, 1) := by decide +kernel
theorem dX5_addAll_5 : decode cX5_addAll 5 = .ok (.iconst 0, 1) := by decide +kernel
theorem dX5_addAll_6 : decode cX5_addAll 6 = .ok (.istore_n 3, 1) := by decide +kernel
theorem dX5_addAll_7 : decode cX5_addAll 7 = .ok (.iload_n 3, 1) := by decide +kernel
theorem dX5_addAll_8 : decode cX5_addAll 8 = .ok (.iload_n 2, 1) := by decide +kernel
theorem dX5_addAll_9 : decode cX5_addAll 9 = .ok (.if_icmp .ge 18, 3) := by decide +kernel
theorem dX5_addAll_12 : decode cX5_addAll 12 = .ok (.aload_n 0, 1) := by decide +kernel
theorem dX5_addAll_13 : decode cX5_addAll 13 = .ok (.aload_n 1, 1) := by decide +kernel
theorem dX5_addAll_14 : decode cX5_addAll 14 = .ok (.iload_n 3, 1) := by decide +kernel
theorem dX5_addAll_15 : decode cX5_addAll 15 = .ok (.invokevirtual 25, 3) := by decide +kernel
theorem dX5_addAll_18 : decode cX5_addAll 18 = .ok (.invokevirtual 29, 3) := by decide +kernel
theorem dX5_addAll_21 : decode cX5_addAll 21 = .ok (.iinc 3 1, 3) := by decide +kernel
theorem dX5_addAll_24 : decode cX5_addAll 24 = .ok (.goto (-17), 3) := by decide +kernel
theorem dX5_addAll_27 : decode cX5_addAll 27 = .ok (.return_, 1) := by decide +kernel
set_option maxRecDepth 100000 in
theorem t_X5_addAll_7 (G : MG) (hG : (g_l G).stackTraces = false) (d : Nat) (hd : 1 ≤ d)    : ∀ (n : Nat) (σ : MsSt) (l0 : Nat) (l1 : Nat) (l2 : Int32) (l3 : Int32) (h0 : ms_kd l0 = 6) (h1 : ms_kd l1 = 6), TrO G mX5_addAll d 0 0 0 0 ms_wv 7 [(0, .ref l0), (1, .ref l1), (2, .int l2), (3, .int l3)] [] σ (f_X5_addAll_7 n σ l0 l1 l2 l3) := by
  intro n
  induction n with
  | zero => exact fun _ _ _ _ _ _ _ => tr_none
  | succ n ih =>
    intro σ l0 l1 l2 l3 h0 h1
    show TrO G mX5_addAll d 0 0 0 0 ms_wv 7 [(0, .ref l0), (1, .ref l1), (2, .int l2), (3, .int l3)] [] σ (if l3 < l2 then (f_X5_get σ l1 l3).bind fun v1 => (f_X5_add σ l0 v1).bind fun s2 => (f_X5_addAll_7 n) s2 l0 l1 l2 (l3 + 1) else some σ)
    refine tr_iload_n (i := 3) dX5_addAll_7 rfl ?_
    refine tr_iload_n (i := 2) dX5_addAll_8 rfl ?_
    refine tr_icge (o := none) (tgt := 27) dX5_addAll_9 (by decide) ?_ ?_
    · exact tr_vret rfl rfl (by decide) (by decide) dX5_addAll_27
    · refine tr_aload_n (i := 0) dX5_addAll_12 rfl ?_
      refine tr_aload_n (i := 1) dX5_addAll_13 rfl ?_
      refine tr_iload_n (i := 3) dX5_addAll_14 rfl ?_
      refine tr_c_i (ms_cV (rest := [.ref l0]) (al := [.int l3]) 5 (sp_X5_get G hG (d - 1) (by omega) σ l1 l3 h1) h1 (by decide +kernel) kl_X5_25 fv_X5_get dX5_addAll_15 (show _ = some 1 by decide +kernel) (by omega) (Nat.le_of_ble_eq_true rfl) (by decide) (by decide)) (fun v1 => ?_)
      refine tr_c_wv (ms_cV (rest := []) (al := [.int v1]) 5 (sp_X5_add G hG (d - 1) (by omega) σ l0 v1 h0) h0 (by decide +kernel) kl_X5_29 fv_X5_add dX5_addAll_18 (show _ = some 1 by decide +kernel) (by omega) (Nat.le_of_ble_eq_true rfl) (by decide) (by decide)) (fun s2 => ?_)
      refine tr_iinc (k := 3) (v := (l3 + 1)) (lv' := [(0, .ref l0), (1, .ref l1), (2, .int l2), (3, .int (l3 + 1))]) [1, 2, 3, 0] dX5_addAll_21 rfl rfl (by decide) rfl ?_
      refine tr_goto (tgt := 7) dX5_addAll_24 (by decide) ?_
      exact (fun s y0 y1 y2 y3 g0 g1 => ih s y0 y1 y2 y3 g0 g1) s2 l0 l1 l2 (l3 + 1) h0 h1
set_option maxRecDepth 100000 in
theorem sp_X5_addAll (G : MG) (hG : (g_l G).stackTraces = false) (d : Nat) (hd : 1 ≤ d)   (σ : MsSt) (l0 : Nat) (l1 : Nat) (h0 : ms_kd l0 = 6) (h1 : ms_kd l1 = 6) : MsSpec G mX5_addAll d 0 0 [.ref l0, .ref l1] σ ms_wv (f_X5_addAll σ l0 l1) := by
  refine ms_start (by decide +kernel) rfl rfl (Nat.le_of_ble_eq_true rfl) ?_
  show TrO G mX5_addAll d 0 0 0 0 ms_wv 0 [(0, .ref l0), (1, .ref l1)] [] σ (f_X5_addAll_7 ms_fuel σ l0 l1 (ms_i σ l1 1) 0)
  refine tr_aload_n (i := 1) dX5_addAll_0 rfl ?_
  refine tr_getI 5 h1 fl_X5_21 (by decide +kernel) dX5_addAll_1 ?_
  refine tr_istore_n (lv' := [(0, .ref l0), (1, .ref l1), (2, .int (ms_i σ l1 1))]) [1, 2, 0] dX5_addAll_4 (by decide) rfl ?_
  refine tr_iconst (v := 0) dX5_addAll_5 (by decide +kernel) ?_
  refine tr_istore_n (lv' := [(0, .ref l0), (1, .ref l1), (2, .int (ms_i σ l1 1)), (3, .int 0)]) [1, 2, 3, 0] dX5_addAll_6 (by decide) rfl ?_
  exact t_X5_addAll_7 G hG d hd ms_fuel σ l0 l1 (ms_i σ l1 1) 0 h0 h1
theorem dX5_takeOver_0 : decode cX5_takeOver 0 = .ok (.aload_n 0, 1) := by decide +kernel
theorem dX5_takeOver_1 : decode cX5_takeOver 1 = .ok (.invokevirtual 33, 3) := by decide +kernel
theorem dX5_takeOver_4 : decode cX5_takeOver 4 = .ok (.aload_n 0, 1) := by decide +kernel
theorem dX5_takeOver_5 : decode cX5_takeOver 5 = .ok (.aload_n 1, 1) := by decide +kernel
theorem dX5_takeOver_6 : decode cX5_takeOver 6 = .ok (.invokevirtual 36, 3) := by decide +kernel
theorem dX5_takeOver_9 : decode cX5_takeOver 9 = .ok (.return_, 1) := by decide +kernel
set_option maxRecDepth 100000 in
theorem sp_X5_takeOver (G : MG) (hG : (g_l G).stackTraces = false) (d : Nat) (hd : 2 ≤ d)   (σ : MsSt) (l0 : Nat) (l1 : Nat) (h0 : ms_kd l0 = 6) (h1 : ms_kd l1 = 6) : MsSpec G mX5_takeOver d 0 0 [.ref l0, .ref l1] σ ms_wv (f_X5_takeOver σ l0 l1) := by
  refine ms_start (by decide +kernel) rfl rfl (Nat.le_of_ble_eq_true rfl) ?_
  show TrO G mX5_takeOver d 0 0 0 0 ms_wv 0 [(0, .ref l0), (1, .ref l1)] [] σ ((f_X5_clear σ l0).bind fun s1 => (f_X5_addAll s1 l0 l1).bind fun s2 => some s2)
  refine tr_aload_n (i := 0) dX5_takeOver_0 rfl ?_
  refine tr_c_wv (ms_cV (rest := []) (al := []) 5 (sp_X5_clear G hG (d - 1) (by omega) σ l0 h0) h0 (by decide +kernel) kl_X5_33 fv_X5_clear dX5_takeOver_1 (show _ = some 0 by decide +kernel) (by omega) (Nat.le_of_ble_eq_true rfl) (by decide) (by decide)) (fun s1 => ?_)
  refine tr_aload_n (i := 0) dX5_takeOver_4 rfl ?_
  refine tr_aload_n (i := 1) dX5_takeOver_5 rfl ?_
  refine tr_c_wv (ms_cV (rest := []) (al := [.ref l1]) 5 (sp_X5_addAll G hG (d - 1) (by omega) s1 l0 l1 h0 h1) h0 (by decide +kernel) kl_X5_36 fv_X5_addAll dX5_takeOver_6 (show _ = some 1 by decide +kernel) (by omega) (Nat.le_of_ble_eq_true rfl) (by decide) (by decide)) (fun s2 => ?_)
  exact tr_vret rfl rfl (by decide) (by decide) dX5_takeOver_9
theorem dX5_put_0 : decode cX5_put 0 = .ok (.iload_n 1, 1) := by decide +kernel
theorem dX5_put_1 : decode cX5_put 1 = .ok (.ifCond .lt 27, 3) := by decide +kernel
theorem dX5_put_4 : decode cX5_put 4 = .ok (.iload_n 1, 1) := by decide +kernel
theorem dX5_put_5 : decode cX5_put 5 = .ok (.aload_n 0, 1) := by decide +kernel
theorem dX5_put_6 : decode cX5_put 6 = .ok (.getfield 21, 3) := by decide +kernel
theorem dX5_put_9 : decode cX5_put 9 = .ok (.if_icmp .ge 19, 3) := by decide +kernel
theorem dX5_put_12 : decode cX5_put 12 = .ok (.iload_n 1, 1) := by decide +kernel
theorem dX5_put_13 : decode cX5_put 13 = .ok (.aload_n 0, 1) := by decide +kernel
theorem dX5_put_14 : decode cX5_put 14 = .ok (.getfield 15, 3) := by decide +kernel
theorem dX5_put_17 : decode cX5_put 17 = .ok (.arraylength, 1) := by decide +kernel
theorem dX5_put_18 : decode cX5_put 18 = .ok (.if_icmp .ge 10, 3) := by decide +kernel
theorem dX5_put_21 : decode cX5_put 21 = .ok (.aload_n 0, 1) := by decide +kernel
theorem dX5_put_22 : decode cX5_put 22 = .ok (.getfield 15, 3) := by decide +kernel
theorem dX5_put_25 : decode cX5_put 25 = .ok (.iload_n 1, 1) := by decide +kernel
theorem dX5_put_26 : decode cX5_put 26 = .ok (.iload_n 2, 1) := by decide +kernel
theorem dX5_put_27 : decode cX5_put 27 = .ok (.iastore, 1) := by decide +kernel
theorem dX5_put_28 : decode cX5_put 28 = .ok (.return_, 1) := by decide +kernel
set_option maxRecDepth 100000 in
theorem sp_X5_put (G : MG) (hG : (g_l G).stackTraces = false) (d : Nat) (hd : 0 ≤ d)   (σ : MsSt) (l0 : Nat) (l1 : Int32) (l2 : Int32) (h0 : ms_kd l0 = 6) : MsSpec G mX5_put d 0 0 [.ref l0, .int l1, .int l2] σ ms_wv (f_X5_put σ l0 l1 l2) := by
  refine ms_start (by decide +kernel) rfl rfl (Nat.le_of_ble_eq_true rfl) ?_
  show TrO G mX5_put d 0 0 0 0 ms_wv 0 [(0, .ref l0), (1, .int l1), (2, .int l2)] [] σ (if l1 < 0 then some σ else if l1 < (ms_i σ l0 1) then if l1 < (Int32.ofNat (ms_ln (ms_rf l0 0))) then (ms_ast σ (ms_rf l0 0) l1 l2).bind fun s1 => some s1 else some σ else some σ)
  refine tr_iload_n (i := 1) dX5_put_0 rfl ?_
  refine tr_iflt (o := none) (tgt := 28) dX5_put_1 (by decide) ?_ ?_
  · exact tr_vret rfl rfl (by decide) (by decide) dX5_put_28
  · refine tr_iload_n (i := 1) dX5_put_4 rfl ?_
    refine tr_aload_n (i := 0) dX5_put_5 rfl ?_
    refine tr_getI 5 h0 fl_X5_21 (by decide +kernel) dX5_put_6 ?_
    refine tr_icge (o := none) (tgt := 28) dX5_put_9 (by decide) ?_ ?_
    · exact tr_vret rfl rfl (by decide) (by decide) dX5_put_28
    · refine tr_iload_n (i := 1) dX5_put_12 rfl ?_
      refine tr_aload_n (i := 0) dX5_put_13 rfl ?_
      refine tr_getR 5 h0 fl_X5_15 (by decide +kernel) dX5_put_14 ?_
      refine tr_len 0 (rk_5_0 h0) (by decide) dX5_put_17 ?_
      refine tr_icge (o := none) (tgt := 28) dX5_put_18 (by decide) ?_ ?_
      · exact tr_vret rfl rfl (by decide) (by decide) dX5_put_28
      · refine tr_aload_n (i := 0) dX5_put_21 rfl ?_
        refine tr_getR 5 h0 fl_X5_15 (by decide +kernel) dX5_put_22 ?_
        refine tr_iload_n (i := 1) dX5_put_25 rfl ?_
        refine tr_iload_n (i := 2) dX5_put_26 rfl ?_
        refine tr_ast (rk_5_0 h0) dX5_put_27 (fun s1 => ?_)
        exact tr_vret rfl rfl (by decide) (by decide) dX5_put_28
theorem dX5_insert_0 : decode cX5_insert 0 = .ok (.aload_n 0, 1) := by decide +kernel
theorem dX5_insert_1 : decode cX5_insert 1 = .ok (.iload_n 2, 1) := by decide +kernel
theorem dX5_insert_2 : decode cX5_insert 2 = .ok (.invokevirtual 29, 3) := by decide +kernel
theorem dX5_insert_5 : decode cX5_insert 5 = .ok (.aload_n 0, 1) := by decide +kernel
theorem dX5_insert_6 : decode cX5_insert 6 = .ok (.getfield 21, 3) := by decide +kernel
theorem dX5_insert_9 : decode cX5_insert 9 = .ok (.iconst 1, 1) := by decide +kernel
theorem dX5_insert_10 : decode cX5_insert 10 = .ok (.isub, 1) := by decide +kernel
theorem dX5_insert_11 : decode cX5_insert 11 = .ok (.istore_n 3, 1) := by decide +kernel
theorem dX5_insert_12 : decode cX5_insert 12 = .ok (.iload_n 3, 1) := by decide +kernel
theorem dX5_insert_13 : decode cX5_insert 13 = .ok (.iload_n 1, 1) := by decide +kernel
theorem dX5_insert_14 : decode cX5_insert 14 = .ok (.if_icmp .le 21, 3) := by decide +kernel
theorem dX5_insert_17 : decode cX5_insert 17 = .ok (.aload_n 0, 1) := by decide +kernel
theorem dX5_insert_18 : decode cX5_insert 18 = .ok (.iload_n 3, 1) := by decide +kernel
theorem dX5_insert_19 : decode cX5_insert 19 = .ok (.aload_n 0, 1) := by decide +kernel
theorem dX5_insert_20 : decode cX5_insert 20 = .ok (.iload_n 3, 1) := by decide +kernel
theorem dX5_insert_21 : decode cX5_insert 21 = .ok (.iconst 1, 1) := by decide +kernel
theorem dX5_insert_22 : decode cX5_insert 22 = .ok (.isub, 1) := by decide +kernel
theorem dX5_insert_23 : decode cX5_insert 23 = .ok (.invokevirtual 25, 3) := by decide +kernel
theorem dX5_insert_26 : decode cX5_insert 26 = .ok (.invokevirtual 40, 3) := by decide +kernel
theorem dX5_insert_29 : decode cX5_insert 29 = .ok (.iinc 3 (-1), 3) := by decide +kernel
theorem dX5_insert_32 : decode cX5_insert 32 = .ok (.goto (-20), 3) := by decide +kernel
theorem dX5_insert_35 : decode cX5_insert 35 = .ok (.aload_n 0, 1) := by decide +kernel
theorem dX5_insert_36 : decode cX5_insert 36 = .ok (.iload_n 1, 1) := by decide +kernel
theorem dX5_insert_37 : decode cX5_insert 37 = .ok (.iload_n 2, 1) := by decide +kernel
theorem dX5_insert_38 : decode cX5_insert 38 = .ok (.invokevirtual 40, 3) := by decide +kernel
theorem dX5_insert_41 : decode cX5_insert 41 = .ok (.return_, 1) := by decide +kernel
set_option maxRecDepth 100000 in
theorem t_X5_insert_12 (G : MG) (hG : (g_l G).stackTraces = false) (d : Nat) (hd : 1 ≤ d)    : ∀ (n : Nat) (σ : MsSt) (l0 : Nat) (l1 : Int32) (l2 : Int32) (l3 : Int32) (h0 : ms_kd l0 = 6), TrO G mX5_insert d 0 0 0 0 ms_wv 12 [(0, .ref l0), (1, .int l1), (2, .int l2), (3, .int l3)] [] σ (f_X5_insert_12 n σ l0 l1 l2 l3) := by
  intro n
  induction n with
  | zero => exact fun _ _ _ _ _ _ => tr_none
  | succ n ih =>
    intro σ l0 l1 l2 l3 h0
    show TrO G mX5_insert d 0 0 0 0 ms_wv 12 [(0, .ref l0), (1, .int l1), (2, .int l2), (3, .int l3)] [] σ (if l1 < l3 then (f_X5_get σ l0 (l3 - 1)).bind fun v3 => (f_X5_put σ l0 l3 v3).bind fun s4 => (f_X5_insert_12 n) s4 l0 l1 l2 (l3 + (-1)) else (f_X5_put σ l0 l1 l2).bind fun s2 => some s2)
    refine tr_iload_n (i := 3) dX5_insert_12 rfl ?_
    refine tr_iload_n (i := 1) dX5_insert_13 rfl ?_
    refine tr_icle (o := none) (tgt := 35) dX5_insert_14 (by decide) ?_ ?_
    · refine tr_aload_n (i := 0) dX5_insert_35 rfl ?_
      refine tr_iload_n (i := 1) dX5_insert_36 rfl ?_
      refine tr_iload_n (i := 2) dX5_insert_37 rfl ?_
      refine tr_c_wv (ms_cV (rest := []) (al := [.int l1, .int l2]) 5 (sp_X5_put G hG (d - 1) (by omega) σ l0 l1 l2 h0) h0 (by decide +kernel) kl_X5_40 fv_X5_put dX5_insert_38 (show _ = some 2 by decide +kernel) (by omega) (Nat.le_of_ble_eq_true rfl) (by decide) (by decide)) (fun s2 => ?_)
      exact tr_vret rfl rfl (by decide) (by decide) dX5_insert_41
    · refine tr_aload_n (i := 0) dX5_insert_17 rfl ?_
      refine tr_iload_n (i := 3) dX5_insert_18 rfl ?_
      refine tr_aload_n (i := 0) dX5_insert_19 rfl ?_
      refine tr_iload_n (i := 3) dX5_insert_20 rfl ?_
      refine tr_iconst (v := 1) dX5_insert_21 (by decide +kernel) ?_
      refine tr_isub dX5_insert_22 ?_
      refine tr_c_i (ms_cV (rest := [.int l3, .ref l0]) (al := [.int (l3 - 1)]) 5 (sp_X5_get G hG (d - 1) (by omega) σ l0 (l3 - 1) h0) h0 (by decide +kernel) kl_X5_25 fv_X5_get dX5_insert_23 (show _ = some 1 by decide +kernel) (by omega) (Nat.le_of_ble_eq_true rfl) (by decide) (by decide)) (fun v3 => ?_)
      refine tr_c_wv (ms_cV (rest := []) (al := [.int l3, .int v3]) 5 (sp_X5_put G hG (d - 1) (by omega) σ l0 l3 v3 h0) h0 (by decide +kernel) kl_X5_40 fv_X5_put dX5_insert_26 (show _ = some 2 by decide +kernel) (by omega) (Nat.le_of_ble_eq_true rfl) (by decide) (by decide)) (fun s4 => ?_)
      refine tr_iinc (k := 3) (v := (l3 + (-1))) (lv' := [(0, .ref l0), (1, .int l1), (2, .int l2), (3, .int (l3 + (-1)))]) [1, 2, 3, 0] dX5_insert_29 rfl rfl (by decide) rfl ?_
      refine tr_goto (tgt := 12) dX5_insert_32 (by decide) ?_
      exact (fun s y0 y1 y2 y3 g0 => ih s y0 y1 y2 y3 g0) s4 l0 l1 l2 (l3 + (-1)) h0
set_option maxRecDepth 100000 in
theorem sp_X5_insert (G : MG) (hG : (g_l G).stackTraces = false) (d : Nat) (hd : 1 ≤ d)   (σ : MsSt) (l0 : Nat) (l1 : Int32) (l2 : Int32) (h0 : ms_kd l0 = 6) : MsSpec G mX5_insert d 0 0 [.ref l0, .int l1, .int l2] σ ms_wv (f_X5_insert σ l0 l1 l2) := by
  refine ms_start (by decide +kernel) rfl rfl (Nat.le_of_ble_eq_true rfl) ?_
  show TrO G mX5_insert d 0 0 0 0 ms_wv 0 [(0, .ref l0), (1, .int l1), (2, .int l2)] [] σ ((f_X5_add σ l0 l2).bind fun s1 => f_X5_insert_12 ms_fuel s1 l0 l1 l2 ((ms_i s1 l0 1) - 1))
  refine tr_aload_n (i := 0) dX5_insert_0 rfl ?_
  refine tr_iload_n (i := 2) dX5_insert_1 rfl ?_
  refine tr_c_wv (ms_cV (rest := []) (al := [.int l2]) 5 (sp_X5_add G hG (d - 1) (by omega) σ l0 l2 h0) h0 (by decide +kernel) kl_X5_29 fv_X5_add dX5_insert_2 (show _ = some 1 by decide +kernel) (by omega) (Nat.le_of_ble_eq_true rfl) (by decide) (by decide)) (fun s1 => ?_)
  refine tr_aload_n (i := 0) dX5_insert_5 rfl ?_
  refine tr_getI 5 h0 fl_X5_21 (by decide +kernel) dX5_insert_6 ?_
  refine tr_iconst (v := 1) dX5_insert_9 (by decide +kernel) ?_
  refine tr_isub dX5_insert_10 ?_
  refine tr_istore_n (lv' := [(0, .ref l0), (1, .int l1), (2, .int l2), (3, .int ((ms_i s1 l0 1) - 1))]) [1, 2, 3, 0] dX5_insert_11 (by decide) rfl ?_
  exact t_X5_insert_12 G hG d hd ms_fuel s1 l0 l1 l2 ((ms_i s1 l0 1) - 1) h0
theorem dX5_cut_0 : decode cX5_cut 0 = .ok (.iconst 0, 1) := by decide +kernel
theorem dX5_cut_1 : decode cX5_cut 1 = .ok (.istore_n 3, 1) := by decide +kernel
theorem dX5_cut_2 : decode cX5_cut 2 = .ok (.iconst 0, 1) := by decide +kernel
theorem dX5_cut_3 : decode cX5_cut 3 = .ok (.istore 4, 2) := by decide +kernel
theorem dX5_cut_5 : decode cX5_cut 5 = .ok (.iload 4, 2) := by decide +kernel
theorem dX5_cut_7 : decode cX5_cut 7 = .ok (.aload_n 0, 1) := by decide +kernel
theorem dX5_cut_8 : decode cX5_cut 8 = .ok (.getfield 21, 3) := by decide +kernel
theorem dX5_cut_11 : decode cX5_cut 11 = .ok (.if_icmp .ge 35, 3) := by decide +kernel
theorem dX5_cut_14 : decode cX5_cut 14 = .ok (.iload 4, 2) := by decide +kernel
theorem dX5_cut_16 : decode cX5_cut 16 = .ok (.iload_n 1, 1) := by decide +kernel
theorem dX5_cut_17 : decode cX5_cut 17 = .ok (.if_icmp .lt 9, 3) := by decide +kernel
theorem dX5_cut_20 : decode cX5_cut 20 = .ok (.iload 4, 2) := by decide +kernel
theorem dX5_cut_22 : decode cX5_cut 22 = .ok (.iload_n 2, 1) := by decide +kernel
theorem dX5_cut_23 : decode cX5_cut 23 = .ok (.if_icmp .le 17, 3) := by decide +kernel
theorem dX5_cut_26 : decode cX5_cut 26 = .ok (.aload_n 0, 1) := by decide +kernel
theorem dX5_cut_27 : decode cX5_cut 27 = .ok (.iload_n 3, 1) := by decide +kernel
theorem dX5_cut_28 : decode cX5_cut 28 = .ok (.aload_n 0, 1) := by decide +kernel
theorem dX5_cut_29 : decode cX5_cut 29 = .ok (.iload 4, 2) := by decide +kernel
theorem dX5_cut_31 : decode cX5_cut 31 = .ok (.invokevirtual 25, 3) := by decide +kernel
theorem dX5_cut_34 : decode cX5_cut 34 = .ok (.invokevirtual 40, 3) := by decide +kernel
theorem dX5_cut_37 : decode cX5_cut 37 = .ok (.iinc 3 1, 3) := by decide +kernel
theorem dX5_cut_40 : decode cX5_cut 40 = .ok (.iinc 4 1, 3) := by decide +kernel
theorem dX5_cut_43 : decode cX5_cut 43 = .ok (.goto (-38), 3) := by decide +kernel
theorem dX5_cut_46 : decode cX5_cut 46 = .ok (.aload_n 0, 1) := by decide +kernel
theorem dX5_cut_47 : decode cX5_cut 47 = .ok (.iload_n 3, 1) := by decide +kernel
theorem dX5_cut_48 : decode cX5_cut 48 = .ok (.putfield 21, 3) := by decide +kernel
theorem dX5_cut_51 : decode cX5_cut 51 = .ok (.return_, 1) := by decide +kernel
set_option maxRecDepth 100000 in
theorem t_X5_cut_26 (G : MG) (hG : (g_l G).stackTraces = false) (d : Nat) (hd : 1 ≤ d)   (k5 : MsSt → Nat → Int32 → Int32 → Int32 → Int32 → Option (MsSt)) (hk5 : ∀ (s : MsSt) (x1 : Nat) (x2 : Int32) (x3 : Int32) (x4 : Int32) (x5 : Int32), ms_kd x1 = 6 → TrO G mX5_cut d 0 0 0 0 ms_wv 5 [(0, .ref x1), (1, .int x2), (2, .int x3), (3, .int x4), (4, .int x5)] [] s (k5 s x1 x2 x3 x4 x5)) (σ : MsSt) (l0 : Nat) (l1 : Int32) (l2 : Int32) (l3 : Int32) (l4 : Int32) (h0 : ms_kd l0 = 6) : TrO G mX5_cut d 0 0 0 0 ms_wv 26 [(0, .ref l0), (1, .int l1), (2, .int l2), (3, .int l3), (4, .int l4)] [] σ (f_X5_cut_26 k5 σ l0 l1 l2 l3 l4) := by
  show TrO G mX5_cut d 0 0 0 0 ms_wv 26 [(0, .ref l0), (1, .int l1), (2, .int l2), (3, .int l3), (4, .int l4)] [] σ ((f_X5_get σ l0 l4).bind fun v2 => (f_X5_put σ l0 l3 v2).bind fun s3 => k5 s3 l0 l1 l2 (l3 + 1) (l4 + 1))
  refine tr_aload_n (i := 0) dX5_cut_26 rfl ?_
  refine tr_iload_n (i := 3) dX5_cut_27 rfl ?_
  refine tr_aload_n (i := 0) dX5_cut_28 rfl ?_
  refine tr_iload (i := 4) dX5_cut_29 rfl ?_
  refine tr_c_i (ms_cV (rest := [.int l3, .ref l0]) (al := [.int l4]) 5 (sp_X5_get G hG (d - 1) (by omega) σ l0 l4 h0) h0 (by decide +kernel) kl_X5_25 fv_X5_get dX5_cut_31 (show _ = some 1 by decide +kernel) (by omega) (Nat.le_of_ble_eq_true rfl) (by decide) (by decide)) (fun v2 => ?_)
  refine tr_c_wv (ms_cV (rest := []) (al := [.int l3, .int v2]) 5 (sp_X5_put G hG (d - 1) (by omega) σ l0 l3 v2 h0) h0 (by decide +kernel) kl_X5_40 fv_X5_put dX5_cut_34 (show _ = some 2 by decide +kernel) (by omega) (Nat.le_of_ble_eq_true rfl) (by decide) (by decide)) (fun s3 => ?_)
  refine tr_iinc (k := 3) (v := (l3 + 1)) (lv' := [(0, .ref l0), (1, .int l1), (2, .int l2), (3, .int (l3 + 1)), (4, .int l4)]) [1, 2, 3, 0, 4] dX5_cut_37 rfl rfl (by decide) rfl ?_
  refine tr_iinc (k := 4) (v := (l4 + 1)) (lv' := [(0, .ref l0), (1, .int l1), (2, .int l2), (3, .int (l3 + 1)), (4, .int (l4 + 1))]) [1, 2, 3, 4, 0] dX5_cut_40 rfl rfl (by decide) rfl ?_
  refine tr_goto (tgt := 5) dX5_cut_43 (by decide) ?_
  exact hk5 s3 l0 l1 l2 (l3 + 1) (l4 + 1) h0
set_option maxRecDepth 100000 in
theorem t_X5_cut_5 (G : MG) (hG : (g_l G).stackTraces = false) (d : Nat) (hd : 1 ≤ d)    : ∀ (n : Nat) (σ : MsSt) (l0 : Nat) (l1 : Int32) (l2 : Int32) (l3 : Int32) (l4 : Int32) (h0 : ms_kd l0 = 6), TrO G mX5_cut d 0 0 0 0 ms_wv 5 [(0, .ref l0), (1, .int l1), (2, .int l2), (3, .int l3), (4, .int l4)] [] σ (f_X5_cut_5 n σ l0 l1 l2 l3 l4) := by
  intro n
  induction n with
  | zero => exact fun _ _ _ _ _ _ _ => tr_none
  | succ n ih =>
    intro σ l0 l1 l2 l3 l4 h0
    show TrO G mX5_cut d 0 0 0 0 ms_wv 5 [(0, .ref l0), (1, .int l1), (2, .int l2), (3, .int l3), (4, .int l4)] [] σ (if l4 < (ms_i σ l0 1) then if l4 < l1 then f_X5_cut_26 (f_X5_cut_5 n) σ l0 l1 l2 l3 l4 else if l2 < l4 then f_X5_cut_26 (f_X5_cut_5 n) σ l0 l1 l2 l3 l4 else (f_X5_cut_5 n) σ l0 l1 l2 l3 (l4 + 1) else ms_nm (ms_si σ l0 1 l3) fun s1 => some s1)
    refine tr_iload (i := 4) dX5_cut_5 rfl ?_
    refine tr_aload_n (i := 0) dX5_cut_7 rfl ?_
    refine tr_getI 5 h0 fl_X5_21 (by decide +kernel) dX5_cut_8 ?_
    refine tr_icge (o := none) (tgt := 46) dX5_cut_11 (by decide) ?_ ?_
    · refine tr_aload_n (i := 0) dX5_cut_46 rfl ?_
      refine tr_iload_n (i := 3) dX5_cut_47 rfl ?_
      refine tr_putI 5 h0 fl_X5_21 (by decide +kernel) dX5_cut_48 ?_
      refine ms_ltS (fun s1 => ?_)
      exact tr_vret rfl rfl (by decide) (by decide) dX5_cut_51
    · refine tr_iload (i := 4) dX5_cut_14 rfl ?_
      refine tr_iload_n (i := 1) dX5_cut_16 rfl ?_
      refine tr_iclt (o := none) (tgt := 26) dX5_cut_17 (by decide) ?_ ?_
      · exact t_X5_cut_26 G hG d hd (f_X5_cut_5 n) (fun s y0 y1 y2 y3 y4 g0 => ih s y0 y1 y2 y3 y4 g0) σ l0 l1 l2 l3 l4 h0
      · refine tr_iload (i := 4) dX5_cut_20 rfl ?_
        refine tr_iload_n (i := 2) dX5_cut_22 rfl ?_
        refine tr_icle (o := none) (tgt := 40) dX5_cut_23 (by decide) ?_ ?_
        · refine tr_iinc (k := 4) (v := (l4 + 1)) (lv' := [(0, .ref l0), (1, .int l1), (2, .int l2), (3, .int l3), (4, .int (l4 + 1))]) [1, 2, 3, 4, 0] dX5_cut_40 rfl rfl (by decide) rfl ?_
          refine tr_goto (tgt := 5) dX5_cut_43 (by decide) ?_
          exact (fun s y0 y1 y2 y3 y4 g0 => ih s y0 y1 y2 y3 y4 g0) σ l0 l1 l2 l3 (l4 + 1) h0
        · exact t_X5_cut_26 G hG d hd (f_X5_cut_5 n) (fun s y0 y1 y2 y3 y4 g0 => ih s y0 y1 y2 y3 y4 g0) σ l0 l1 l2 l3 l4 h0
set_option maxRecDepth 100000 in
theorem sp_X5_cut (G : MG) (hG : (g_l G).stackTraces = false) (d : Nat) (hd : 1 ≤ d)   (σ : MsSt) (l0 : Nat) (l1 : Int32) (l2 : Int32) (h0 : ms_kd l0 = 6) : MsSpec G mX5_cut d 0 0 [.ref l0, .int l1, .int l2] σ ms_wv (f_X5_cut σ l0 l1 l2) := by
  refine ms_start (by decide +kernel) rfl rfl (Nat.le_of_ble_eq_true rfl) ?_
  show TrO G mX5_cut d 0 0 0 0 ms_wv 0 [(0, .ref l0), (1, .int l1), (2, .int l2)] [] σ (f_X5_cut_5 ms_fuel σ l0 l1 l2 0 0)
  refine tr_iconst (v := 0) dX5_cut_0 (by decide +kernel) ?_
  refine tr_istore_n (lv' := [(0, .ref l0), (1, .int l1), (2, .int l2), (3, .int 0)]) [1, 2, 3, 0] dX5_cut_1 (by decide) rfl ?_
  refine tr_iconst (v := 0) dX5_cut_2 (by decide +kernel) ?_
  refine tr_istore (lv' := [(0, .ref l0), (1, .int l1), (2, .int l2), (3, .int 0), (4, .int 0)]) [1, 2, 3, 4, 0] dX5_cut_3 (by decide) rfl ?_
  exact t_X5_cut_5 G hG d hd ms_fuel σ l0 l1 l2 0 0 h0
theorem dX5_contains_0 : decode cX5_contains 0 = .ok (.iconst 0, 1) := by decide +kernel
theorem dX5_contains_1 : decode cX5_contains 1 = .ok (.istore_n 2, 1) := by decide +kernel
theorem dX5_contains_2 : decode cX5_contains 2 = .ok (.iload_n 2, 1) := by decide +kernel
theorem dX5_contains_3 : decode cX5_contains 3 = .ok (.aload_n 0, 1) := by decide +kernel
theorem dX5_contains_4 : decode cX5_contains 4 = .ok (.getfield 21, 3) := by decide +kernel
theorem dX5_contains_7 : decode cX5_contains 7 = .ok (.if_icmp .ge 20, 3) := by decide +kernel
theorem dX5_contains_10 : decode cX5_contains 10 = .ok (.aload_n 0, 1) := by decide +kernel
theorem dX5_contains_11 : decode cX5_contains 11 = .ok (.iload_n 2, 1) := by decide +kernel
theorem dX5_contains_12 : decode cX5_contains 12 = .ok (.invokevirtual 25, 3) := by decide +kernel
theorem dX5_contains_15 : decode cX5_contains 15 = .ok (.iload_n 1, 1) := by decide +kernel
theorem dX5_contains_16 : decode cX5_contains 16 = .ok (.if_icmp .ne 5, 3) := by decide +kernel
theorem dX5_contains_19 : decode cX5_contains 19 = .ok (.iconst 1, 1) := by decide +kernel
theorem dX5_contains_20 : decode cX5_contains 20 = .ok (.ireturn, 1) := by decide +kernel
theorem dX5_contains_21 : decode cX5_contains 21 = .ok (.iinc 2 1, 3) := by decide +kernel
theorem dX5_contains_24 : decode cX5_contains 24 = .ok (.goto (-22), 3) := by decide +kernel
theorem dX5_contains_27 : decode cX5_contains 27 = .ok (.iconst 0, 1) := by decide +kernel
theorem dX5_contains_28 : decode cX5_contains 28 = .ok (.ireturn, 1) := by decide +kernel
set_option maxRecDepth 100000 in
theorem t_X5_contains_2 (G : MG) (hG : (g_l G).stackTraces = false) (d : Nat) (hd : 1 ≤ d)   (σ : MsSt)  : ∀ (n : Nat) (l0 : Nat) (l1 : Int32) (l2 : Int32) (h0 : ms_kd l0 = 6), TrO G mX5_contains d 0 0 0 0 (ms_ki σ) 2 [(0, .ref l0), (1, .int l1), (2, .int l2)] [] σ (f_X5_contains_2 σ n l0 l1 l2) := by
  intro n
  induction n with
  | zero => exact fun _ _ _ _ => tr_none
  | succ n ih =>
    intro l0 l1 l2 h0
    show TrO G mX5_contains d 0 0 0 0 (ms_ki σ) 2 [(0, .ref l0), (1, .int l1), (2, .int l2)] [] σ (if l2 < (ms_i σ l0 1) then (f_X5_get σ l0 l2).bind fun v1 => if v1 = l1 then some 1 else (f_X5_contains_2 σ n) l0 l1 (l2 + 1) else some 0)
    refine tr_iload_n (i := 2) dX5_contains_2 rfl ?_
    refine tr_aload_n (i := 0) dX5_contains_3 rfl ?_
    refine tr_getI 5 h0 fl_X5_21 (by decide +kernel) dX5_contains_4 ?_
    refine tr_icge (o := none) (tgt := 27) dX5_contains_7 (by decide) ?_ ?_
    · refine tr_iconst (v := 0) dX5_contains_27 (by decide +kernel) ?_
      exact tr_zret rfl (by decide +kernel) rfl (by decide) (by decide) dX5_contains_28
    · refine tr_aload_n (i := 0) dX5_contains_10 rfl ?_
      refine tr_iload_n (i := 2) dX5_contains_11 rfl ?_
      refine tr_c_i (ms_cV (rest := []) (al := [.int l2]) 5 (sp_X5_get G hG (d - 1) (by omega) σ l0 l2 h0) h0 (by decide +kernel) kl_X5_25 fv_X5_get dX5_contains_12 (show _ = some 1 by decide +kernel) (by omega) (Nat.le_of_ble_eq_true rfl) (by decide) (by decide)) (fun v1 => ?_)
      refine tr_iload_n (i := 1) dX5_contains_15 rfl ?_
      refine tr_icne (o := none) (tgt := 21) dX5_contains_16 (by decide) ?_ ?_
      · refine tr_iinc (k := 2) (v := (l2 + 1)) (lv' := [(0, .ref l0), (1, .int l1), (2, .int (l2 + 1))]) [1, 2, 0] dX5_contains_21 rfl rfl (by decide) rfl ?_
        refine tr_goto (tgt := 2) dX5_contains_24 (by decide) ?_
        exact (fun y0 y1 y2 g0 => ih y0 y1 y2 g0) l0 l1 (l2 + 1) h0
      · refine tr_iconst (v := 1) dX5_contains_19 (by decide +kernel) ?_
        exact tr_zret rfl (by decide +kernel) rfl (by decide) (by decide) dX5_contains_20
set_option maxRecDepth 100000 in
theorem sp_X5_contains (G : MG) (hG : (g_l G).stackTraces = false) (d : Nat) (hd : 1 ≤ d)   (σ : MsSt) (l0 : Nat) (l1 : Int32) (h0 : ms_kd l0 = 6) : MsSpec G mX5_contains d 0 0 [.ref l0, .int l1] σ (ms_ki σ) (f_X5_contains σ l0 l1) := by
  refine ms_start (by decide +kernel) rfl rfl (Nat.le_of_ble_eq_true rfl) ?_
  show TrO G mX5_contains d 0 0 0 0 (ms_ki σ) 0 [(0, .ref l0), (1, .int l1)] [] σ (f_X5_contains_2 σ ms_fuel l0 l1 0)
  refine tr_iconst (v := 0) dX5_contains_0 (by decide +kernel) ?_
  refine tr_istore_n (lv' := [(0, .ref l0), (1, .int l1), (2, .int 0)]) [1, 2, 0] dX5_contains_1 (by decide) rfl ?_
  exact t_X5_contains_2 G hG d hd σ ms_fuel l0 l1 0 h0
theorem dX5_firstUnlike_0 : decode cX5_firstUnlike 0 = .ok (.aload_n 0, 1) := by decide +kernel
theorem dX5_firstUnlike_1 : decode cX5_firstUnlike 1 = .ok (.getfield 21, 3) := by decide +kernel
theorem dX5_firstUnlike_4 : decode cX5_firstUnlike 4 = .ok (.aload_n 1, 1) := by decide +kernel
theorem dX5_firstUnlike_5 : decode cX5_firstUnlike 5 = .ok (.getfield 21, 3) := by decide +kernel
theorem dX5_firstUnlike_8 : decode cX5_firstUnlike 8 = .ok (.invokestatic 9, 3) := by decide +kernel
theorem dX5_firstUnlike_11 : decode cX5_firstUnlike 11 = .ok (.istore_n 2, 1) := by decide +kernel
theorem dX5_firstUnlike_12 : decode cX5_firstUnlike 12 = .ok (.iconst 0, 1) := by decide +kernel
theorem dX5_firstUnlike_13 : decode cX5_firstUnlike 13 = .ok (.istore_n 3, 1) := by decide +kernel
theorem dX5_firstUnlike_14 : decode cX5_firstUnlike 14 = .ok (.iload_n 3, 1) := by decide +kernel
theorem dX5_firstUnlike_15 : decode cX5_firstUnlike 15 = .ok (.iload_n 2, 1) := by decide +kernel
theorem dX5_firstUnlike_16 : decode cX5_firstUnlike 16 = .ok (.if_icmp .ge 24, 3) := by decide +kernel
theorem dX5_firstUnlike_19 : decode cX5_firstUnlike 19 = .ok (.aload_n 0, 1) := by decide +kernel
theorem dX5_firstUnlike_20 : decode cX5_firstUnlike 20 = .ok (.iload_n 3, 1) := by decide +kernel
theorem dX5_firstUnlike_21 : decode cX5_firstUnlike 21 = .ok (.invokevirtual 25, 3) := by decide +kernel
theorem dX5_firstUnlike_24 : decode cX5_firstUnlike 24 = .ok (.aload_n 1, 1) := by decide +kernel
theorem dX5_firstUnlike_25 : decode cX5_firstUnlike 25 = .ok (.iload_n 3, 1) := by decide +kernel
theorem dX5_firstUnlike_26 : decode cX5_firstUnlike 26 = .ok (.invokevirtual 25, 3) := by decide +kernel
theorem dX5_firstUnlike_29 : decode cX5_firstUnlike 29 = .ok (.if_icmp .eq 5, 3) := by decide +kernel
theorem dX5_firstUnlike_32 : decode cX5_firstUnlike 32 = .ok (.iload_n 3, 1) := by decide +kernel
theorem dX5_firstUnlike_33 : decode cX5_firstUnlike 33 = .ok (.ireturn, 1) := by decide +kernel
theorem dX5_firstUnlike_34 : decode cX5_firstUnlike 34 = .ok (.iinc 3 1, 3) := by decide +kernel
theorem dX5_firstUnlike_37 : decode cX5_firstUnlike 37 = .ok (.goto (-23), 3) := by decide +kernel
theorem dX5_firstUnlike_40 : decode cX5_firstUnlike 40 = .ok (.iconst (-1), 1) := by decide +kernel
theorem dX5_firstUnlike_41 : decode cX5_firstUnlike 41 = .ok (.ireturn, 1) := by decide +kernel
set_option maxRecDepth 100000 in
theorem t_X5_firstUnlike_14 (G : MG) (hG : (g_l G).stackTraces = false) (d : Nat) (hd : 1 ≤ d)   (σ : MsSt)  : ∀ (n : Nat) (l0 : Nat) (l1 : Nat) (l2 : Int32) (l3 : Int32) (h0 : ms_kd l0 = 6) (h1 : ms_kd l1 = 6), TrO G mX5_firstUnlike d 0 0 0 0 (ms_ki σ) 14 [(0, .ref l0), (1, .ref l1), (2, .int l2), (3, .int l3)] [] σ (f_X5_firstUnlike_14 σ n l0 l1 l2 l3) := by
  intro n
  induction n with
  | zero => exact fun _ _ _ _ _ _ => tr_none
  | succ n ih =>
    intro l0 l1 l2 l3 h0 h1
    show TrO G mX5_firstUnlike d 0 0 0 0 (ms_ki σ) 14 [(0, .ref l0), (1, .ref l1), (2, .int l2), (3, .int l3)] [] σ (if l3 < l2 then (f_X5_get σ l0 l3).bind fun v1 => (f_X5_get σ l1 l3).bind fun v2 => if v1 = v2 then (f_X5_firstUnlike_14 σ n) l0 l1 l2 (l3 + 1) else some l3 else some (-1))
    refine tr_iload_n (i := 3) dX5_firstUnlike_14 rfl ?_
    refine tr_iload_n (i := 2) dX5_firstUnlike_15 rfl ?_
    refine tr_icge (o := none) (tgt := 40) dX5_firstUnlike_16 (by decide) ?_ ?_
    · refine tr_iconst (v := (-1)) dX5_firstUnlike_40 (by decide +kernel) ?_
      exact tr_iret rfl rfl (by decide) (by decide) dX5_firstUnlike_41
    · refine tr_aload_n (i := 0) dX5_firstUnlike_19 rfl ?_
      refine tr_iload_n (i := 3) dX5_firstUnlike_20 rfl ?_
      refine tr_c_i (ms_cV (rest := []) (al := [.int l3]) 5 (sp_X5_get G hG (d - 1) (by omega) σ l0 l3 h0) h0 (by decide +kernel) kl_X5_25 fv_X5_get dX5_firstUnlike_21 (show _ = some 1 by decide +kernel) (by omega) (Nat.le_of_ble_eq_true rfl) (by decide) (by decide)) (fun v1 => ?_)
      refine tr_aload_n (i := 1) dX5_firstUnlike_24 rfl ?_
      refine tr_iload_n (i := 3) dX5_firstUnlike_25 rfl ?_
      refine tr_c_i (ms_cV (rest := [.int v1]) (al := [.int l3]) 5 (sp_X5_get G hG (d - 1) (by omega) σ l1 l3 h1) h1 (by decide +kernel) kl_X5_25 fv_X5_get dX5_firstUnlike_26 (show _ = some 1 by decide +kernel) (by omega) (Nat.le_of_ble_eq_true rfl) (by decide) (by decide)) (fun v2 => ?_)
      refine tr_iceq (o := none) (tgt := 34) dX5_firstUnlike_29 (by decide) ?_ ?_
      · refine tr_iinc (k := 3) (v := (l3 + 1)) (lv' := [(0, .ref l0), (1, .ref l1), (2, .int l2), (3, .int (l3 + 1))]) [1, 2, 3, 0] dX5_firstUnlike_34 rfl rfl (by decide) rfl ?_
        refine tr_goto (tgt := 14) dX5_firstUnlike_37 (by decide) ?_
        exact (fun y0 y1 y2 y3 g0 g1 => ih y0 y1 y2 y3 g0 g1) l0 l1 l2 (l3 + 1) h0 h1
      · refine tr_iload_n (i := 3) dX5_firstUnlike_32 rfl ?_
        exact tr_iret rfl rfl (by decide) (by decide) dX5_firstUnlike_33
set_option maxRecDepth 100000 in
theorem sp_X5_firstUnlike (G : MG) (hG : (g_l G).stackTraces = false) (d : Nat) (hd : 1 ≤ d)   (σ : MsSt) (l0 : Nat) (l1 : Nat) (h0 : ms_kd l0 = 6) (h1 : ms_kd l1 = 6) : MsSpec G mX5_firstUnlike d 0 0 [.ref l0, .ref l1] σ (ms_ki σ) (f_X5_firstUnlike σ l0 l1) := by
  refine ms_start (by decide +kernel) rfl rfl (Nat.le_of_ble_eq_true rfl) ?_
  show TrO G mX5_firstUnlike d 0 0 0 0 (ms_ki σ) 0 [(0, .ref l0), (1, .ref l1)] [] σ (f_X5_firstUnlike_14 σ ms_fuel l0 l1 (if (ms_i σ l0 1) < (ms_i σ l1 1) then (ms_i σ l1 1) else (ms_i σ l0 1)) 0)
  refine tr_aload_n (i := 0) dX5_firstUnlike_0 rfl ?_
  refine tr_getI 5 h0 fl_X5_21 (by decide +kernel) dX5_firstUnlike_1 ?_
  refine tr_aload_n (i := 1) dX5_firstUnlike_4 rfl ?_
  refine tr_getI 5 h1 fl_X5_21 (by decide +kernel) dX5_firstUnlike_5 ?_
  refine tr_mmax (List.mem_of_getElem? (i := 233) (by decide +kernel)) (List.mem_of_getElem? (i := 234) (by decide +kernel)) (List.mem_of_getElem? (i := 144) (by decide +kernel)) (List.mem_of_getElem? (i := 235) (by decide +kernel)) (by omega) (Nat.le_of_ble_eq_true rfl) (by decide) (by decide) dX5_firstUnlike_8 ?_
  refine tr_istore_n (lv' := [(0, .ref l0), (1, .ref l1), (2, .int (if (ms_i σ l0 1) < (ms_i σ l1 1) then (ms_i σ l1 1) else (ms_i σ l0 1)))]) [1, 2, 0] dX5_firstUnlike_11 (by decide) rfl ?_
  refine tr_iconst (v := 0) dX5_firstUnlike_12 (by decide +kernel) ?_
  refine tr_istore_n (lv' := [(0, .ref l0), (1, .ref l1), (2, .int (if (ms_i σ l0 1) < (ms_i σ l1 1) then (ms_i σ l1 1) else (ms_i σ l0 1))), (3, .int 0)]) [1, 2, 3, 0] dX5_firstUnlike_13 (by decide) rfl ?_
  exact t_X5_firstUnlike_14 G hG d hd σ ms_fuel l0 l1 (if (ms_i σ l0 1) < (ms_i σ l1 1) then (ms_i σ l1 1) else (ms_i σ l0 1)) 0 h0 h1
