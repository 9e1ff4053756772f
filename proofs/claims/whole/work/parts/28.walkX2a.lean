/-! X2: the bytecode does what the functions say (by program: wip/whole/gen) -/
theorem dX2_memoryAt_0 : decode cX2_memoryAt 0 = .ok (.iload_n 1, 1) := by decide +kernel
theorem dX2_memoryAt_1 : decode cX2_memoryAt 1 = .ok (.ifCond .lt 21, 3) := by decide +kernel
theorem dX2_memoryAt_4 : decode cX2_memoryAt 4 = .ok (.iload_n 1, 1) := by decide +kernel
theorem dX2_memoryAt_5 : decode cX2_memoryAt 5 = .ok (.aload_n 0, 1) := by decide +kernel
theorem dX2_memoryAt_6 : decode cX2_memoryAt 6 = .ok (.getfield 11, 3) := by decide +kernel
theorem dX2_memoryAt_9 : decode cX2_memoryAt 9 = .ok (.arraylength, 1) := by decide +kernel
theorem dX2_memoryAt_10 : decode cX2_memoryAt 10 = .ok (.if_icmp .ge 12, 3) := by decide +kernel
theorem dX2_memoryAt_13 : decode cX2_memoryAt 13 = .ok (.aload_n 0, 1) := by decide +kernel
theorem dX2_memoryAt_14 : decode cX2_memoryAt 14 = .ok (.getfield 11, 3) := by decide +kernel
theorem dX2_memoryAt_17 : decode cX2_memoryAt 17 = .ok (.iload_n 1, 1) := by decide +kernel
theorem dX2_memoryAt_18 : decode cX2_memoryAt 18 = .ok (.aaload, 1) := by decide +kernel
theorem dX2_memoryAt_19 : decode cX2_memoryAt 19 = .ok (.goto 4, 3) := by decide +kernel
theorem dX2_memoryAt_22 : decode cX2_memoryAt 22 = .ok (.aconst_null, 1) := by decide +kernel
theorem dX2_memoryAt_23 : decode cX2_memoryAt 23 = .ok (.areturn, 1) := by decide +kernel
set_option maxRecDepth 100000 in
theorem sp_X2_memoryAt (G : MG) (hG : (g_l G).stackTraces = false) (d : Nat) (hd : 0 ≤ d)   (σ : MsSt) (l0 : Nat) (l1 : Int32) (h0 : ms_kd l0 = 3) : MsSpec G mX2_memoryAt d 0 0 [.ref l0, .int l1] σ (ms_kq σ) (f_X2_memoryAt σ l0 l1) := by
  refine ms_start (by decide +kernel) rfl rfl (Nat.le_of_ble_eq_true rfl) ?_
  show TrO G mX2_memoryAt d 0 0 0 0 (ms_kq σ) 0 [(0, .ref l0), (1, .int l1)] [] σ (if l1 < 0 then some none else if l1 < (Int32.ofNat (ms_ln (ms_rf l0 0))) then (ms_ala (ms_rf l0 0) l1).bind fun v1 => some (some v1) else some none)
  refine tr_iload_n (i := 1) dX2_memoryAt_0 rfl ?_
  refine tr_iflt (o := none) (tgt := 22) dX2_memoryAt_1 (by decide) ?_ ?_
  · refine tr_null dX2_memoryAt_22 ?_
    exact tr_nret rfl rfl (by decide) (by decide) dX2_memoryAt_23
  · refine tr_iload_n (i := 1) dX2_memoryAt_4 rfl ?_
    refine tr_aload_n (i := 0) dX2_memoryAt_5 rfl ?_
    refine tr_getR 2 h0 fl_X2_11 (by decide +kernel) dX2_memoryAt_6 ?_
    refine tr_len 6 (rk_2_0 h0) (by decide) dX2_memoryAt_9 ?_
    refine tr_icge (o := none) (tgt := 22) dX2_memoryAt_10 (by decide) ?_ ?_
    · refine tr_null dX2_memoryAt_22 ?_
      exact tr_nret rfl rfl (by decide) (by decide) dX2_memoryAt_23
    · refine tr_aload_n (i := 0) dX2_memoryAt_13 rfl ?_
      refine tr_getR 2 h0 fl_X2_11 (by decide +kernel) dX2_memoryAt_14 ?_
      refine tr_iload_n (i := 1) dX2_memoryAt_17 rfl ?_
      refine tr_ala 6 (rk_2_0 h0) (by decide) (by decide) dX2_memoryAt_18 (fun v1 e_v1 => ?_)
      refine tr_goto (tgt := 23) dX2_memoryAt_19 (by decide) ?_
      exact tr_aret rfl rfl (by decide) (by decide) dX2_memoryAt_23
theorem dX2_forget_0 : decode cX2_forget 0 = .ok (.aload_n 0, 1) := by decide +kernel
theorem dX2_forget_1 : decode cX2_forget 1 = .ok (.iconst 0, 1) := by decide +kernel
theorem dX2_forget_2 : decode cX2_forget 2 = .ok (.putfield 22, 3) := by decide +kernel
theorem dX2_forget_5 : decode cX2_forget 5 = .ok (.return_, 1) := by decide +kernel
set_option maxRecDepth 100000 in
theorem sp_X2_forget (G : MG) (hG : (g_l G).stackTraces = false) (d : Nat) (hd : 0 ≤ d)   (σ : MsSt) (l0 : Nat) (h0 : ms_kd l0 = 3) : MsSpec G mX2_forget d 0 0 [.ref l0] σ ms_wv (f_X2_forget σ l0) := by
  refine ms_start (by decide +kernel) rfl rfl (Nat.le_of_ble_eq_true rfl) ?_
  show TrO G mX2_forget d 0 0 0 0 ms_wv 0 [(0, .ref l0)] [] σ (ms_nm (ms_si σ l0 2 0) fun s1 => some s1)
  refine tr_aload_n (i := 0) dX2_forget_0 rfl ?_
  refine tr_iconst (v := 0) dX2_forget_1 (by decide +kernel) ?_
  refine tr_putI 2 h0 fl_X2_22 (by decide +kernel) dX2_forget_2 ?_
  refine ms_ltS (fun s1 => ?_)
  exact tr_vret rfl rfl (by decide) (by decide) dX2_forget_5
theorem dX2_record_0 : decode cX2_record 0 = .ok (.aload_n 0, 1) := by decide +kernel
theorem dX2_record_1 : decode cX2_record 1 = .ok (.aload_n 0, 1) := by decide +kernel
theorem dX2_record_2 : decode cX2_record 2 = .ok (.getfield 18, 3) := by decide +kernel
theorem dX2_record_5 : decode cX2_record 5 = .ok (.invokevirtual 25, 3) := by decide +kernel
theorem dX2_record_8 : decode cX2_record 8 = .ok (.astore_n 2, 1) := by decide +kernel
theorem dX2_record_9 : decode cX2_record 9 = .ok (.aload_n 2, 1) := by decide +kernel
theorem dX2_record_10 : decode cX2_record 10 = .ok (.ifnull 8, 3) := by decide +kernel
theorem dX2_record_13 : decode cX2_record 13 = .ok (.aload_n 2, 1) := by decide +kernel
theorem dX2_record_14 : decode cX2_record 14 = .ok (.aload_n 1, 1) := by decide +kernel
theorem dX2_record_15 : decode cX2_record 15 = .ok (.invokevirtual 29, 3) := by decide +kernel
theorem dX2_record_18 : decode cX2_record 18 = .ok (.aload_n 0, 1) := by decide +kernel
theorem dX2_record_19 : decode cX2_record 19 = .ok (.aload_n 0, 1) := by decide +kernel
theorem dX2_record_20 : decode cX2_record 20 = .ok (.getfield 18, 3) := by decide +kernel
theorem dX2_record_23 : decode cX2_record 23 = .ok (.iconst 1, 1) := by decide +kernel
theorem dX2_record_24 : decode cX2_record 24 = .ok (.iadd, 1) := by decide +kernel
theorem dX2_record_25 : decode cX2_record 25 = .ok (.aload_n 0, 1) := by decide +kernel
theorem dX2_record_26 : decode cX2_record 26 = .ok (.getfield 11, 3) := by decide +kernel
theorem dX2_record_29 : decode cX2_record 29 = .ok (.arraylength, 1) := by decide +kernel
theorem dX2_record_30 : decode cX2_record 30 = .ok (.if_icmp .ge 12, 3) := by decide +kernel
theorem dX2_record_33 : decode cX2_record 33 = .ok (.aload_n 0, 1) := by decide +kernel
theorem dX2_record_34 : decode cX2_record 34 = .ok (.getfield 18, 3) := by decide +kernel
theorem dX2_record_37 : decode cX2_record 37 = .ok (.iconst 1, 1) := by decide +kernel
theorem dX2_record_38 : decode cX2_record 38 = .ok (.iadd, 1) := by decide +kernel
theorem dX2_record_39 : decode cX2_record 39 = .ok (.goto 4, 3) := by decide +kernel
theorem dX2_record_42 : decode cX2_record 42 = .ok (.iconst 0, 1) := by decide +kernel
theorem dX2_record_43 : decode cX2_record 43 = .ok (.putfield 18, 3) := by decide +kernel
theorem dX2_record_46 : decode cX2_record 46 = .ok (.aload_n 0, 1) := by decide +kernel
theorem dX2_record_47 : decode cX2_record 47 = .ok (.aload_n 0, 1) := by decide +kernel
theorem dX2_record_48 : decode cX2_record 48 = .ok (.getfield 22, 3) := by decide +kernel
theorem dX2_record_51 : decode cX2_record 51 = .ok (.iconst 1, 1) := by decide +kernel
theorem dX2_record_52 : decode cX2_record 52 = .ok (.iadd, 1) := by decide +kernel
theorem dX2_record_53 : decode cX2_record 53 = .ok (.aload_n 0, 1) := by decide +kernel
theorem dX2_record_54 : decode cX2_record 54 = .ok (.getfield 11, 3) := by decide +kernel
theorem dX2_record_57 : decode cX2_record 57 = .ok (.arraylength, 1) := by decide +kernel
theorem dX2_record_58 : decode cX2_record 58 = .ok (.invokestatic 33, 3) := by decide +kernel
theorem dX2_record_61 : decode cX2_record 61 = .ok (.putfield 22, 3) := by decide +kernel
theorem dX2_record_64 : decode cX2_record 64 = .ok (.return_, 1) := by decide +kernel
set_option maxRecDepth 100000 in
theorem t_X2_record_43 (G : MG) (hG : (g_l G).stackTraces = false) (d : Nat) (hd : 4 ≤ d)    (σ : MsSt) (l0 : Nat) (t0 : Int32) (t1 : Nat) (h0 : ms_kd l0 = 3) (ht1 : ms_kd t1 = 3) : TrO G mX2_record d 0 0 0 0 ms_wv 43 [(0, .ref l0)] [.int t0, .ref t1] σ (f_X2_record_43 σ l0 t0 t1) := by
  show TrO G mX2_record d 0 0 0 0 ms_wv 43 [(0, .ref l0)] [.int t0, .ref t1] σ (ms_nm (ms_si σ t1 1 t0) fun s2 => ms_nm (ms_si s2 l0 2 (if (Int32.ofNat (ms_ln (ms_rf l0 0))) < ((ms_i s2 l0 2) + 1) then (Int32.ofNat (ms_ln (ms_rf l0 0))) else ((ms_i s2 l0 2) + 1))) fun s3 => some s3)
  refine tr_putI 2 ht1 fl_X2_18 (by decide +kernel) dX2_record_43 ?_
  refine ms_ltS (fun s2 => ?_)
  refine tr_aload_n (i := 0) dX2_record_46 rfl ?_
  refine tr_aload_n (i := 0) dX2_record_47 rfl ?_
  refine tr_getI 2 h0 fl_X2_22 (by decide +kernel) dX2_record_48 ?_
  refine tr_iconst (v := 1) dX2_record_51 (by decide +kernel) ?_
  refine tr_iadd dX2_record_52 ?_
  refine tr_aload_n (i := 0) dX2_record_53 rfl ?_
  refine tr_getR 2 h0 fl_X2_11 (by decide +kernel) dX2_record_54 ?_
  refine tr_len 6 (rk_2_0 h0) (by decide) dX2_record_57 ?_
  refine tr_mmin (List.mem_of_getElem? (i := 1396) (by decide +kernel)) (List.mem_of_getElem? (i := 786) (by decide +kernel)) (List.mem_of_getElem? (i := 144) (by decide +kernel)) (List.mem_of_getElem? (i := 787) (by decide +kernel)) (by omega) (Nat.le_of_ble_eq_true rfl) (by decide) (by decide) dX2_record_58 ?_
  refine tr_putI 2 h0 fl_X2_22 (by decide +kernel) dX2_record_61 ?_
  refine ms_ltS (fun s3 => ?_)
  exact tr_vret rfl rfl (by decide) (by decide) dX2_record_64
set_option maxRecDepth 100000 in
theorem t_X2_record_18 (G : MG) (hG : (g_l G).stackTraces = false) (d : Nat) (hd : 4 ≤ d)    (σ : MsSt) (l0 : Nat) (h0 : ms_kd l0 = 3) : TrO G mX2_record d 0 0 0 0 ms_wv 18 [(0, .ref l0)] [] σ (f_X2_record_18 σ l0) := by
  show TrO G mX2_record d 0 0 0 0 ms_wv 18 [(0, .ref l0)] [] σ (if ((ms_i σ l0 1) + 1) < (Int32.ofNat (ms_ln (ms_rf l0 0))) then f_X2_record_43 σ l0 ((ms_i σ l0 1) + 1) l0 else f_X2_record_43 σ l0 0 l0)
  refine tr_aload_n (i := 0) dX2_record_18 rfl ?_
  refine tr_aload_n (i := 0) dX2_record_19 rfl ?_
  refine tr_getI 2 h0 fl_X2_18 (by decide +kernel) dX2_record_20 ?_
  refine tr_iconst (v := 1) dX2_record_23 (by decide +kernel) ?_
  refine tr_iadd dX2_record_24 ?_
  refine tr_aload_n (i := 0) dX2_record_25 rfl ?_
  refine tr_getR 2 h0 fl_X2_11 (by decide +kernel) dX2_record_26 ?_
  refine tr_len 6 (rk_2_0 h0) (by decide) dX2_record_29 ?_
  refine tr_icge (o := none) (tgt := 42) dX2_record_30 (by decide) ?_ ?_
  · refine tr_iconst (v := 0) dX2_record_42 (by decide +kernel) ?_
    exact t_X2_record_43 G hG d hd σ l0 0 l0 h0 h0
  · refine tr_aload_n (i := 0) dX2_record_33 rfl ?_
    refine tr_getI 2 h0 fl_X2_18 (by decide +kernel) dX2_record_34 ?_
    refine tr_iconst (v := 1) dX2_record_37 (by decide +kernel) ?_
    refine tr_iadd dX2_record_38 ?_
    refine tr_goto (tgt := 43) dX2_record_39 (by decide) ?_
    exact t_X2_record_43 G hG d hd σ l0 ((ms_i σ l0 1) + 1) l0 h0 h0
set_option maxRecDepth 100000 in
theorem sp_X2_record (G : MG) (hG : (g_l G).stackTraces = false) (d : Nat) (hd : 4 ≤ d)   (σ : MsSt) (l0 : Nat) (l1 : Nat) (h0 : ms_kd l0 = 3) (h1 : ms_kd l1 = 7) : MsSpec G mX2_record d 0 0 [.ref l0, .ref l1] σ ms_wv (f_X2_record σ l0 l1) := by
  refine ms_start (by decide +kernel) rfl rfl (Nat.le_of_ble_eq_true rfl) ?_
  show TrO G mX2_record d 0 0 0 0 ms_wv 0 [(0, .ref l0), (1, .ref l1)] [] σ (ms_bq (f_X2_memoryAt σ l0 (ms_i σ l0 1)) (f_X2_record_18 σ l0) (fun v1 => (f_X3_keep σ v1 l1).bind fun s4 => f_X2_record_18 s4 l0))
  refine tr_aload_n (i := 0) dX2_record_0 rfl ?_
  refine tr_aload_n (i := 0) dX2_record_1 rfl ?_
  refine tr_getI 2 h0 fl_X2_18 (by decide +kernel) dX2_record_2 ?_
  refine tr_d_q (ms_cV (rest := []) (al := [.int (ms_i σ l0 1)]) 2 (sp_X2_memoryAt G hG (d - 1) (by omega) σ l0 (ms_i σ l0 1) h0) h0 (by decide +kernel) kl_X2_25 fv_X2_memoryAt dX2_record_5 (show _ = some 1 by decide +kernel) (by omega) (Nat.le_of_ble_eq_true rfl) (by decide) (by decide)) ?_ (fun v1 e_v1 => ?_)
  · refine tr_astore_nN (lv' := [(0, .ref l0), (1, .ref l1), (2, .null)]) [1, 2, 0] dX2_record_8 (by decide) rfl ?_
    refine tr_aload_nN (i := 2) dX2_record_9 rfl ?_
    refine tr_ifnullN (tgt := 18) dX2_record_10 (by decide) ?_
    refine tr_weak [0] (lv' := [(0, .ref l0)]) rfl ?_
    exact t_X2_record_18 G hG d hd σ l0 h0
  · refine tr_astore_n (lv' := [(0, .ref l0), (1, .ref l1), (2, .ref v1)]) [1, 2, 0] dX2_record_8 (by decide) rfl ?_
    refine tr_aload_n (i := 2) dX2_record_9 rfl ?_
    refine tr_ifnull dX2_record_10 ?_
    refine tr_aload_n (i := 2) dX2_record_13 rfl ?_
    refine tr_aload_n (i := 1) dX2_record_14 rfl ?_
    refine tr_c_wv (ms_cV (rest := []) (al := [.ref l1]) 3 (sp_X3_keep G hG (d - 1) (by omega) σ v1 l1 (ra_X2_memoryAt h0 e_v1) h1) (ra_X2_memoryAt h0 e_v1) (by decide +kernel) kl_X2_29 fv_X3_keep dX2_record_15 (show _ = some 1 by decide +kernel) (by omega) (Nat.le_of_ble_eq_true rfl) (by decide) (by decide)) (fun s4 => ?_)
    refine tr_weak [0] (lv' := [(0, .ref l0)]) rfl ?_
    exact t_X2_record_18 G hG d hd s4 l0 h0
theorem dX2_takeBack_0 : decode cX2_takeBack 0 = .ok (.aload_n 0, 1) := by decide +kernel
theorem dX2_takeBack_1 : decode cX2_takeBack 1 = .ok (.getfield 22, 3) := by decide +kernel
theorem dX2_takeBack_4 : decode cX2_takeBack 4 = .ok (.ifCond .ne 5, 3) := by decide +kernel
theorem dX2_takeBack_7 : decode cX2_takeBack 7 = .ok (.iconst (-1), 1) := by decide +kernel
theorem dX2_takeBack_8 : decode cX2_takeBack 8 = .ok (.ireturn, 1) := by decide +kernel
theorem dX2_takeBack_9 : decode cX2_takeBack 9 = .ok (.aload_n 0, 1) := by decide +kernel
theorem dX2_takeBack_10 : decode cX2_takeBack 10 = .ok (.aload_n 0, 1) := by decide +kernel
theorem dX2_takeBack_11 : decode cX2_takeBack 11 = .ok (.getfield 18, 3) := by decide +kernel
theorem dX2_takeBack_14 : decode cX2_takeBack 14 = .ok (.ifCond .le 12, 3) := by decide +kernel
theorem dX2_takeBack_17 : decode cX2_takeBack 17 = .ok (.aload_n 0, 1) := by decide +kernel
theorem dX2_takeBack_18 : decode cX2_takeBack 18 = .ok (.getfield 18, 3) := by decide +kernel
theorem dX2_takeBack_21 : decode cX2_takeBack 21 = .ok (.iconst 1, 1) := by decide +kernel
theorem dX2_takeBack_22 : decode cX2_takeBack 22 = .ok (.isub, 1) := by decide +kernel
theorem dX2_takeBack_23 : decode cX2_takeBack 23 = .ok (.goto 10, 3) := by decide +kernel
theorem dX2_takeBack_26 : decode cX2_takeBack 26 = .ok (.aload_n 0, 1) := by decide +kernel
theorem dX2_takeBack_27 : decode cX2_takeBack 27 = .ok (.getfield 11, 3) := by decide +kernel
theorem dX2_takeBack_30 : decode cX2_takeBack 30 = .ok (.arraylength, 1) := by decide +kernel
theorem dX2_takeBack_31 : decode cX2_takeBack 31 = .ok (.iconst 1, 1) := by decide +kernel
theorem dX2_takeBack_32 : decode cX2_takeBack 32 = .ok (.isub, 1) := by decide +kernel
theorem dX2_takeBack_33 : decode cX2_takeBack 33 = .ok (.putfield 18, 3) := by decide +kernel
theorem dX2_takeBack_36 : decode cX2_takeBack 36 = .ok (.aload_n 0, 1) := by decide +kernel
theorem dX2_takeBack_37 : decode cX2_takeBack 37 = .ok (.dup, 1) := by decide +kernel
theorem dX2_takeBack_38 : decode cX2_takeBack 38 = .ok (.getfield 22, 3) := by decide +kernel
theorem dX2_takeBack_41 : decode cX2_takeBack 41 = .ok (.iconst 1, 1) := by decide +kernel
theorem dX2_takeBack_42 : decode cX2_takeBack 42 = .ok (.isub, 1) := by decide +kernel
theorem dX2_takeBack_43 : decode cX2_takeBack 43 = .ok (.putfield 22, 3) := by decide +kernel
theorem dX2_takeBack_46 : decode cX2_takeBack 46 = .ok (.aload_n 0, 1) := by decide +kernel
theorem dX2_takeBack_47 : decode cX2_takeBack 47 = .ok (.aload_n 0, 1) := by decide +kernel
theorem dX2_takeBack_48 : decode cX2_takeBack 48 = .ok (.getfield 18, 3) := by decide +kernel
theorem dX2_takeBack_51 : decode cX2_takeBack 51 = .ok (.invokevirtual 25, 3) := by decide +kernel
theorem dX2_takeBack_54 : decode cX2_takeBack 54 = .ok (.astore_n 2, 1) := by decide +kernel
theorem dX2_takeBack_55 : decode cX2_takeBack 55 = .ok (.aload_n 2, 1) := by decide +kernel
theorem dX2_takeBack_56 : decode cX2_takeBack 56 = .ok (.ifnull 8, 3) := by decide +kernel
theorem dX2_takeBack_59 : decode cX2_takeBack 59 = .ok (.aload_n 2, 1) := by decide +kernel
theorem dX2_takeBack_60 : decode cX2_takeBack 60 = .ok (.aload_n 1, 1) := by decide +kernel
theorem dX2_takeBack_61 : decode cX2_takeBack 61 = .ok (.invokevirtual 39, 3) := by decide +kernel
theorem dX2_takeBack_64 : decode cX2_takeBack 64 = .ok (.aload_n 0, 1) := by decide +kernel
theorem dX2_takeBack_65 : decode cX2_takeBack 65 = .ok (.getfield 22, 3) := by decide +kernel
theorem dX2_takeBack_68 : decode cX2_takeBack 68 = .ok (.ireturn, 1) := by decide +kernel
set_option maxRecDepth 100000 in
theorem t_X2_takeBack_33 (G : MG) (hG : (g_l G).stackTraces = false) (d : Nat) (hd : 4 ≤ d)    (σ : MsSt) (l0 : Nat) (l1 : Nat) (t0 : Int32) (t1 : Nat) (h0 : ms_kd l0 = 3) (h1 : ms_kd l1 = 7) (ht1 : ms_kd t1 = 3) : TrO G mX2_takeBack d 0 0 0 0 ms_wi 33 [(0, .ref l0), (1, .ref l1)] [.int t0, .ref t1] σ (f_X2_takeBack_33 σ l0 l1 t0 t1) := by
  show TrO G mX2_takeBack d 0 0 0 0 ms_wi 33 [(0, .ref l0), (1, .ref l1)] [.int t0, .ref t1] σ (ms_nm (ms_si σ t1 1 t0) fun s1 => ms_nm (ms_si s1 l0 2 ((ms_i s1 l0 2) - 1)) fun s2 => ms_bq (f_X2_memoryAt s2 l0 (ms_i s2 l0 1)) (some ((ms_i s2 l0 2), s2)) (fun v3 => (f_X3_giveBack s2 v3 l1).bind fun s4 => some ((ms_i s4 l0 2), s4)))
  refine tr_putI 2 ht1 fl_X2_18 (by decide +kernel) dX2_takeBack_33 ?_
  refine ms_ltS (fun s1 => ?_)
  refine tr_aload_n (i := 0) dX2_takeBack_36 rfl ?_
  refine tr_dup dX2_takeBack_37 rfl ?_
  refine tr_getI 2 h0 fl_X2_22 (by decide +kernel) dX2_takeBack_38 ?_
  refine tr_iconst (v := 1) dX2_takeBack_41 (by decide +kernel) ?_
  refine tr_isub dX2_takeBack_42 ?_
  refine tr_putI 2 h0 fl_X2_22 (by decide +kernel) dX2_takeBack_43 ?_
  refine ms_ltS (fun s2 => ?_)
  refine tr_aload_n (i := 0) dX2_takeBack_46 rfl ?_
  refine tr_aload_n (i := 0) dX2_takeBack_47 rfl ?_
  refine tr_getI 2 h0 fl_X2_18 (by decide +kernel) dX2_takeBack_48 ?_
  refine tr_d_q (ms_cV (rest := []) (al := [.int (ms_i s2 l0 1)]) 2 (sp_X2_memoryAt G hG (d - 1) (by omega) s2 l0 (ms_i s2 l0 1) h0) h0 (by decide +kernel) kl_X2_25 fv_X2_memoryAt dX2_takeBack_51 (show _ = some 1 by decide +kernel) (by omega) (Nat.le_of_ble_eq_true rfl) (by decide) (by decide)) ?_ (fun v3 e_v3 => ?_)
  · refine tr_astore_nN (lv' := [(0, .ref l0), (1, .ref l1), (2, .null)]) [1, 2, 0] dX2_takeBack_54 (by decide) rfl ?_
    refine tr_aload_nN (i := 2) dX2_takeBack_55 rfl ?_
    refine tr_ifnullN (tgt := 64) dX2_takeBack_56 (by decide) ?_
    refine tr_aload_n (i := 0) dX2_takeBack_64 rfl ?_
    refine tr_getI 2 h0 fl_X2_22 (by decide +kernel) dX2_takeBack_65 ?_
    exact tr_iret rfl rfl (by decide) (by decide) dX2_takeBack_68
  · refine tr_astore_n (lv' := [(0, .ref l0), (1, .ref l1), (2, .ref v3)]) [1, 2, 0] dX2_takeBack_54 (by decide) rfl ?_
    refine tr_aload_n (i := 2) dX2_takeBack_55 rfl ?_
    refine tr_ifnull dX2_takeBack_56 ?_
    refine tr_aload_n (i := 2) dX2_takeBack_59 rfl ?_
    refine tr_aload_n (i := 1) dX2_takeBack_60 rfl ?_
    refine tr_c_wv (ms_cV (rest := []) (al := [.ref l1]) 3 (sp_X3_giveBack G hG (d - 1) (by omega) s2 v3 l1 (ra_X2_memoryAt h0 e_v3) h1) (ra_X2_memoryAt h0 e_v3) (by decide +kernel) kl_X2_39 fv_X3_giveBack dX2_takeBack_61 (show _ = some 1 by decide +kernel) (by omega) (Nat.le_of_ble_eq_true rfl) (by decide) (by decide)) (fun s4 => ?_)
    refine tr_aload_n (i := 0) dX2_takeBack_64 rfl ?_
    refine tr_getI 2 h0 fl_X2_22 (by decide +kernel) dX2_takeBack_65 ?_
    exact tr_iret rfl rfl (by decide) (by decide) dX2_takeBack_68
set_option maxRecDepth 100000 in
theorem sp_X2_takeBack (G : MG) (hG : (g_l G).stackTraces = false) (d : Nat) (hd : 4 ≤ d)   (σ : MsSt) (l0 : Nat) (l1 : Nat) (h0 : ms_kd l0 = 3) (h1 : ms_kd l1 = 7) : MsSpec G mX2_takeBack d 0 0 [.ref l0, .ref l1] σ ms_wi (f_X2_takeBack σ l0 l1) := by
  refine ms_start (by decide +kernel) rfl rfl (Nat.le_of_ble_eq_true rfl) ?_
  show TrO G mX2_takeBack d 0 0 0 0 ms_wi 0 [(0, .ref l0), (1, .ref l1)] [] σ (if (ms_i σ l0 2) = 0 then some ((-1), σ) else if 0 < (ms_i σ l0 1) then f_X2_takeBack_33 σ l0 l1 ((ms_i σ l0 1) - 1) l0 else f_X2_takeBack_33 σ l0 l1 ((Int32.ofNat (ms_ln (ms_rf l0 0))) - 1) l0)
  refine tr_aload_n (i := 0) dX2_takeBack_0 rfl ?_
  refine tr_getI 2 h0 fl_X2_22 (by decide +kernel) dX2_takeBack_1 ?_
  refine tr_ifne (o := none) (tgt := 9) dX2_takeBack_4 (by decide) ?_ ?_
  · refine tr_aload_n (i := 0) dX2_takeBack_9 rfl ?_
    refine tr_aload_n (i := 0) dX2_takeBack_10 rfl ?_
    refine tr_getI 2 h0 fl_X2_18 (by decide +kernel) dX2_takeBack_11 ?_
    refine tr_ifle (o := none) (tgt := 26) dX2_takeBack_14 (by decide) ?_ ?_
    · refine tr_aload_n (i := 0) dX2_takeBack_26 rfl ?_
      refine tr_getR 2 h0 fl_X2_11 (by decide +kernel) dX2_takeBack_27 ?_
      refine tr_len 6 (rk_2_0 h0) (by decide) dX2_takeBack_30 ?_
      refine tr_iconst (v := 1) dX2_takeBack_31 (by decide +kernel) ?_
      refine tr_isub dX2_takeBack_32 ?_
      exact t_X2_takeBack_33 G hG d hd σ l0 l1 ((Int32.ofNat (ms_ln (ms_rf l0 0))) - 1) l0 h0 h1 h0
    · refine tr_aload_n (i := 0) dX2_takeBack_17 rfl ?_
      refine tr_getI 2 h0 fl_X2_18 (by decide +kernel) dX2_takeBack_18 ?_
      refine tr_iconst (v := 1) dX2_takeBack_21 (by decide +kernel) ?_
      refine tr_isub dX2_takeBack_22 ?_
      refine tr_goto (tgt := 33) dX2_takeBack_23 (by decide) ?_
      exact t_X2_takeBack_33 G hG d hd σ l0 l1 ((ms_i σ l0 1) - 1) l0 h0 h1 h0
  · refine tr_iconst (v := (-1)) dX2_takeBack_7 (by decide +kernel) ?_
    exact tr_iret rfl rfl (by decide) (by decide) dX2_takeBack_8
