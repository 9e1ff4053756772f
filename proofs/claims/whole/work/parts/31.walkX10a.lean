/-! X10: the bytecode does what the functions say (by program: wip/whole/gen) -/
theorem dX10_feed_0 : decode cX10_feed 0 = .ok (.aload_n 0, 1) := by decide +kernel
theorem dX10_feed_1 : decode cX10_feed 1 = .ok (.getfield 12, 3) := by decide +kernel
theorem dX10_feed_4 : decode cX10_feed 4 = .ok (.bipush 20, 2) := by decide +kernel
theorem dX10_feed_6 : decode cX10_feed 6 = .ok (.invokevirtual 97, 3) := by decide +kernel
theorem dX10_feed_9 : decode cX10_feed 9 = .ok (.ifCond .ne 5, 3) := by decide +kernel
theorem dX10_feed_12 : decode cX10_feed 12 = .ok (.iconst (-1), 1) := by decide +kernel
theorem dX10_feed_13 : decode cX10_feed 13 = .ok (.ireturn, 1) := by decide +kernel
theorem dX10_feed_14 : decode cX10_feed 14 = .ok (.aload_n 0, 1) := by decide +kernel
theorem dX10_feed_15 : decode cX10_feed 15 = .ok (.getfield 12, 3) := by decide +kernel
theorem dX10_feed_18 : decode cX10_feed 18 = .ok (.iload_n 1, 1) := by decide +kernel
theorem dX10_feed_19 : decode cX10_feed 19 = .ok (.invokevirtual 101, 3) := by decide +kernel
theorem dX10_feed_22 : decode cX10_feed 22 = .ok (.aload_n 0, 1) := by decide +kernel
theorem dX10_feed_23 : decode cX10_feed 23 = .ok (.getfield 12, 3) := by decide +kernel
theorem dX10_feed_26 : decode cX10_feed 26 = .ok (.iload_n 2, 1) := by decide +kernel
theorem dX10_feed_27 : decode cX10_feed 27 = .ok (.invokevirtual 101, 3) := by decide +kernel
theorem dX10_feed_30 : decode cX10_feed 30 = .ok (.aload_n 0, 1) := by decide +kernel
theorem dX10_feed_31 : decode cX10_feed 31 = .ok (.getfield 12, 3) := by decide +kernel
theorem dX10_feed_34 : decode cX10_feed 34 = .ok (.iload_n 3, 1) := by decide +kernel
theorem dX10_feed_35 : decode cX10_feed 35 = .ok (.invokevirtual 101, 3) := by decide +kernel
theorem dX10_feed_38 : decode cX10_feed 38 = .ok (.aload_n 0, 1) := by decide +kernel
theorem dX10_feed_39 : decode cX10_feed 39 = .ok (.getfield 12, 3) := by decide +kernel
theorem dX10_feed_42 : decode cX10_feed 42 = .ok (.iload 4, 2) := by decide +kernel
theorem dX10_feed_44 : decode cX10_feed 44 = .ok (.invokevirtual 101, 3) := by decide +kernel
theorem dX10_feed_47 : decode cX10_feed 47 = .ok (.aload_n 0, 1) := by decide +kernel
theorem dX10_feed_48 : decode cX10_feed 48 = .ok (.getfield 12, 3) := by decide +kernel
theorem dX10_feed_51 : decode cX10_feed 51 = .ok (.iload 5, 2) := by decide +kernel
theorem dX10_feed_53 : decode cX10_feed 53 = .ok (.invokevirtual 101, 3) := by decide +kernel
theorem dX10_feed_56 : decode cX10_feed 56 = .ok (.aload_n 0, 1) := by decide +kernel
theorem dX10_feed_57 : decode cX10_feed 57 = .ok (.getfield 12, 3) := by decide +kernel
theorem dX10_feed_60 : decode cX10_feed 60 = .ok (.getfield 104, 3) := by decide +kernel
theorem dX10_feed_63 : decode cX10_feed 63 = .ok (.ireturn, 1) := by decide +kernel
set_option maxRecDepth 100000 in
theorem sp_X10_feed (G : MG) (hG : (g_l G).stackTraces = false) (d : Nat) (hd : 1 ≤ d)   (σ : MsSt) (l0 : Nat) (l1 : Int32) (l2 : Int32) (l3 : Int32) (l4 : Int32) (l5 : Int32) (h0 : ms_kd l0 = 11) : MsSpec G mX10_feed d 0 0 [.ref l0, .int l1, .int l2, .int l3, .int l4, .int l5] σ ms_wi (f_X10_feed σ l0 l1 l2 l3 l4 l5) := by
  refine ms_start (by decide +kernel) rfl rfl (Nat.le_of_ble_eq_true rfl) ?_
  show TrO G mX10_feed d 0 0 0 0 ms_wi 0 [(0, .ref l0), (1, .int l1), (2, .int l2), (3, .int l3), (4, .int l4), (5, .int l5)] [] σ ((f_X9_hasRoomFor σ (ms_rf l0 0) 20).bind fun v1 => if v1 = 0 then some ((-1), σ) else (f_X9_append σ (ms_rf l0 0) l1).bind fun s2 => (f_X9_append s2 (ms_rf l0 0) l2).bind fun s3 => (f_X9_append s3 (ms_rf l0 0) l3).bind fun s4 => (f_X9_append s4 (ms_rf l0 0) l4).bind fun s5 => (f_X9_append s5 (ms_rf l0 0) l5).bind fun s6 => some ((ms_i s6 (ms_rf l0 0) 1), s6))
  refine tr_aload_n (i := 0) dX10_feed_0 rfl ?_
  refine tr_getR 10 h0 fl_X10_12 (by decide +kernel) dX10_feed_1 ?_
  refine tr_bipush (v := 20) dX10_feed_4 (by decide +kernel) ?_
  refine tr_c_i (ms_cV (rest := []) (al := [.int 20]) 9 (sp_X9_hasRoomFor G hG (d - 1) (by omega) σ (ms_rf l0 0) 20 (rk_10_0 h0)) (rk_10_0 h0) (by decide +kernel) kl_X10_97 fv_X9_hasRoomFor dX10_feed_6 (show _ = some 1 by decide +kernel) (by omega) (Nat.le_of_ble_eq_true rfl) (by decide) (by decide)) (fun v1 => ?_)
  refine tr_ifne (o := none) (tgt := 14) dX10_feed_9 (by decide) ?_ ?_
  · refine tr_aload_n (i := 0) dX10_feed_14 rfl ?_
    refine tr_getR 10 h0 fl_X10_12 (by decide +kernel) dX10_feed_15 ?_
    refine tr_iload_n (i := 1) dX10_feed_18 rfl ?_
    refine tr_c_wv (ms_cV (rest := []) (al := [.int l1]) 9 (sp_X9_append G hG (d - 1) (by omega) σ (ms_rf l0 0) l1 (rk_10_0 h0)) (rk_10_0 h0) (by decide +kernel) kl_X10_101 fv_X9_append dX10_feed_19 (show _ = some 1 by decide +kernel) (by omega) (Nat.le_of_ble_eq_true rfl) (by decide) (by decide)) (fun s2 => ?_)
    refine tr_aload_n (i := 0) dX10_feed_22 rfl ?_
    refine tr_getR 10 h0 fl_X10_12 (by decide +kernel) dX10_feed_23 ?_
    refine tr_iload_n (i := 2) dX10_feed_26 rfl ?_
    refine tr_c_wv (ms_cV (rest := []) (al := [.int l2]) 9 (sp_X9_append G hG (d - 1) (by omega) s2 (ms_rf l0 0) l2 (rk_10_0 h0)) (rk_10_0 h0) (by decide +kernel) kl_X10_101 fv_X9_append dX10_feed_27 (show _ = some 1 by decide +kernel) (by omega) (Nat.le_of_ble_eq_true rfl) (by decide) (by decide)) (fun s3 => ?_)
    refine tr_aload_n (i := 0) dX10_feed_30 rfl ?_
    refine tr_getR 10 h0 fl_X10_12 (by decide +kernel) dX10_feed_31 ?_
    refine tr_iload_n (i := 3) dX10_feed_34 rfl ?_
    refine tr_c_wv (ms_cV (rest := []) (al := [.int l3]) 9 (sp_X9_append G hG (d - 1) (by omega) s3 (ms_rf l0 0) l3 (rk_10_0 h0)) (rk_10_0 h0) (by decide +kernel) kl_X10_101 fv_X9_append dX10_feed_35 (show _ = some 1 by decide +kernel) (by omega) (Nat.le_of_ble_eq_true rfl) (by decide) (by decide)) (fun s4 => ?_)
    refine tr_aload_n (i := 0) dX10_feed_38 rfl ?_
    refine tr_getR 10 h0 fl_X10_12 (by decide +kernel) dX10_feed_39 ?_
    refine tr_iload (i := 4) dX10_feed_42 rfl ?_
    refine tr_c_wv (ms_cV (rest := []) (al := [.int l4]) 9 (sp_X9_append G hG (d - 1) (by omega) s4 (ms_rf l0 0) l4 (rk_10_0 h0)) (rk_10_0 h0) (by decide +kernel) kl_X10_101 fv_X9_append dX10_feed_44 (show _ = some 1 by decide +kernel) (by omega) (Nat.le_of_ble_eq_true rfl) (by decide) (by decide)) (fun s5 => ?_)
    refine tr_aload_n (i := 0) dX10_feed_47 rfl ?_
    refine tr_getR 10 h0 fl_X10_12 (by decide +kernel) dX10_feed_48 ?_
    refine tr_iload (i := 5) dX10_feed_51 rfl ?_
    refine tr_c_wv (ms_cV (rest := []) (al := [.int l5]) 9 (sp_X9_append G hG (d - 1) (by omega) s5 (ms_rf l0 0) l5 (rk_10_0 h0)) (rk_10_0 h0) (by decide +kernel) kl_X10_101 fv_X9_append dX10_feed_53 (show _ = some 1 by decide +kernel) (by omega) (Nat.le_of_ble_eq_true rfl) (by decide) (by decide)) (fun s6 => ?_)
    refine tr_aload_n (i := 0) dX10_feed_56 rfl ?_
    refine tr_getR 10 h0 fl_X10_12 (by decide +kernel) dX10_feed_57 ?_
    refine tr_getI 9 (rk_10_0 h0) fl_X10_104 (by decide +kernel) dX10_feed_60 ?_
    exact tr_iret rfl rfl (by decide) (by decide) dX10_feed_63
  · refine tr_iconst (v := (-1)) dX10_feed_12 (by decide +kernel) ?_
    exact tr_iret rfl rfl (by decide) (by decide) dX10_feed_13
theorem dX10_needLength_0 : decode cX10_needLength 0 = .ok (.iload_n 1, 1) := by decide +kernel
theorem dX10_needLength_1 : decode cX10_needLength 1 = .ok (.ifCond .lt 19, 3) := by decide +kernel
theorem dX10_needLength_4 : decode cX10_needLength 4 = .ok (.iload_n 1, 1) := by decide +kernel
theorem dX10_needLength_5 : decode cX10_needLength 5 = .ok (.iload_n 2, 1) := by decide +kernel
theorem dX10_needLength_6 : decode cX10_needLength 6 = .ok (.if_icmp .gt 14, 3) := by decide +kernel
theorem dX10_needLength_9 : decode cX10_needLength 9 = .ok (.iload_n 1, 1) := by decide +kernel
theorem dX10_needLength_10 : decode cX10_needLength 10 = .ok (.aload_n 0, 1) := by decide +kernel
theorem dX10_needLength_11 : decode cX10_needLength 11 = .ok (.getfield 12, 3) := by decide +kernel
theorem dX10_needLength_14 : decode cX10_needLength 14 = .ok (.getfield 104, 3) := by decide +kernel
theorem dX10_needLength_17 : decode cX10_needLength 17 = .ok (.if_icmp .le 14, 3) := by decide +kernel
theorem dX10_needLength_20 : decode cX10_needLength 20 = .ok (.new 378, 3) := by decide +kernel
theorem dX10_needLength_23 : decode cX10_needLength 23 = .ok (.dup, 1) := by decide +kernel
theorem dX10_needLength_24 : decode cX10_needLength 24 = .ok (.ldc_w 380, 3) := by decide +kernel
theorem dX10_needLength_27 : decode cX10_needLength 27 = .ok (.invokespecial 382, 3) := by decide +kernel
theorem dX10_needLength_30 : decode cX10_needLength 30 = .ok (.athrow, 1) := by decide +kernel
theorem dX10_needLength_31 : decode cX10_needLength 31 = .ok (.return_, 1) := by decide +kernel
set_option maxRecDepth 100000 in
theorem sp_X10_needLength (G : MG) (hG : (g_l G).stackTraces = false) (d : Nat) (hd : 6 ≤ d)   (σ : MsSt) (l0 : Nat) (l1 : Int32) (l2 : Int32) (h0 : ms_kd l0 = 11) : MsSpec G mX10_needLength d 1 6 [.ref l0, .int l1, .int l2] σ (ms_tv σ) (f_X10_needLength σ l0 l1 l2) := by
  refine ms_start (by decide +kernel) rfl rfl (Nat.le_of_ble_eq_true rfl) ?_
  show TrO G mX10_needLength d 1 6 0 0 (ms_tv σ) 0 [(0, .ref l0), (1, .int l1), (2, .int l2)] [] σ (if l1 < 0 then some (some 1) else if l2 < l1 then some (some 1) else if (ms_i σ (ms_rf l0 0) 1) < l1 then some (some 1) else some none)
  refine tr_iload_n (i := 1) dX10_needLength_0 rfl ?_
  refine tr_iflt (o := none) (tgt := 20) dX10_needLength_1 (by decide) ?_ ?_
  · exact tr_throwW (rest := []) 1 hG th_X10_378_380 rfl rfl (by decide) (by decide) (by omega) (by decide) dX10_needLength_20 dX10_needLength_23 dX10_needLength_24 dX10_needLength_27 dX10_needLength_30
  · refine tr_iload_n (i := 1) dX10_needLength_4 rfl ?_
    refine tr_iload_n (i := 2) dX10_needLength_5 rfl ?_
    refine tr_icgt (o := none) (tgt := 20) dX10_needLength_6 (by decide) ?_ ?_
    · exact tr_throwW (rest := []) 1 hG th_X10_378_380 rfl rfl (by decide) (by decide) (by omega) (by decide) dX10_needLength_20 dX10_needLength_23 dX10_needLength_24 dX10_needLength_27 dX10_needLength_30
    · refine tr_iload_n (i := 1) dX10_needLength_9 rfl ?_
      refine tr_aload_n (i := 0) dX10_needLength_10 rfl ?_
      refine tr_getR 10 h0 fl_X10_12 (by decide +kernel) dX10_needLength_11 ?_
      refine tr_getI 9 (rk_10_0 h0) fl_X10_104 (by decide +kernel) dX10_needLength_14 ?_
      refine tr_icle (o := none) (tgt := 31) dX10_needLength_17 (by decide) ?_ ?_
      · exact tr_vret rfl rfl (by decide) (by decide) dX10_needLength_31
      · exact tr_throwW (rest := []) 1 hG th_X10_378_380 rfl rfl (by decide) (by decide) (by omega) (by decide) dX10_needLength_20 dX10_needLength_23 dX10_needLength_24 dX10_needLength_27 dX10_needLength_30
theorem dX10_load_0 : decode cX10_load 0 = .ok (.aload_n 0, 1) := by decide +kernel
theorem dX10_load_1 : decode cX10_load 1 = .ok (.iload_n 1, 1) := by decide +kernel
theorem dX10_load_2 : decode cX10_load 2 = .ok (.sipush 900, 3) := by decide +kernel
theorem dX10_load_5 : decode cX10_load 5 = .ok (.invokevirtual 107, 3) := by decide +kernel
theorem dX10_load_8 : decode cX10_load 8 = .ok (.aload_n 0, 1) := by decide +kernel
theorem dX10_load_9 : decode cX10_load 9 = .ok (.getfield 28, 3) := by decide +kernel
theorem dX10_load_12 : decode cX10_load 12 = .ok (.iload_n 1, 1) := by decide +kernel
theorem dX10_load_13 : decode cX10_load 13 = .ok (.invokevirtual 111, 3) := by decide +kernel
theorem dX10_load_16 : decode cX10_load 16 = .ok (.istore_n 2, 1) := by decide +kernel
theorem dX10_load_17 : decode cX10_load 17 = .ok (.aload_n 0, 1) := by decide +kernel
theorem dX10_load_18 : decode cX10_load 18 = .ok (.getfield 12, 3) := by decide +kernel
theorem dX10_load_21 : decode cX10_load 21 = .ok (.iconst 0, 1) := by decide +kernel
theorem dX10_load_22 : decode cX10_load 22 = .ok (.putfield 104, 3) := by decide +kernel
theorem dX10_load_25 : decode cX10_load 25 = .ok (.aload_n 0, 1) := by decide +kernel
theorem dX10_load_26 : decode cX10_load 26 = .ok (.aload_n 0, 1) := by decide +kernel
theorem dX10_load_27 : decode cX10_load 27 = .ok (.getfield 12, 3) := by decide +kernel
theorem dX10_load_30 : decode cX10_load 30 = .ok (.getfield 115, 3) := by decide +kernel
theorem dX10_load_33 : decode cX10_load 33 = .ok (.putfield 93, 3) := by decide +kernel
theorem dX10_load_36 : decode cX10_load 36 = .ok (.iload_n 2, 1) := by decide +kernel
theorem dX10_load_37 : decode cX10_load 37 = .ok (.ifCond .eq 8, 3) := by decide +kernel
theorem dX10_load_40 : decode cX10_load 40 = .ok (.bipush (-10), 2) := by decide +kernel
theorem dX10_load_42 : decode cX10_load 42 = .ok (.iload_n 2, 1) := by decide +kernel
theorem dX10_load_43 : decode cX10_load 43 = .ok (.isub, 1) := by decide +kernel
theorem dX10_load_44 : decode cX10_load 44 = .ok (.ireturn, 1) := by decide +kernel
theorem dX10_load_45 : decode cX10_load 45 = .ok (.aload_n 0, 1) := by decide +kernel
theorem dX10_load_46 : decode cX10_load 46 = .ok (.getfield 19, 3) := by decide +kernel
theorem dX10_load_49 : decode cX10_load 49 = .ok (.aload_n 0, 1) := by decide +kernel
theorem dX10_load_50 : decode cX10_load 50 = .ok (.getfield 28, 3) := by decide +kernel
theorem dX10_load_53 : decode cX10_load 53 = .ok (.getfield 116, 3) := by decide +kernel
theorem dX10_load_56 : decode cX10_load 56 = .ok (.invokevirtual 119, 3) := by decide +kernel
theorem dX10_load_59 : decode cX10_load 59 = .ok (.aload_n 0, 1) := by decide +kernel
theorem dX10_load_60 : decode cX10_load 60 = .ok (.getfield 44, 3) := by decide +kernel
theorem dX10_load_63 : decode cX10_load 63 = .ok (.invokevirtual 122, 3) := by decide +kernel
theorem dX10_load_66 : decode cX10_load 66 = .ok (.aload_n 0, 1) := by decide +kernel
theorem dX10_load_67 : decode cX10_load 67 = .ok (.iconst 0, 1) := by decide +kernel
theorem dX10_load_68 : decode cX10_load 68 = .ok (.putfield 89, 3) := by decide +kernel
theorem dX10_load_71 : decode cX10_load 71 = .ok (.aload_n 0, 1) := by decide +kernel
theorem dX10_load_72 : decode cX10_load 72 = .ok (.getfield 19, 3) := by decide +kernel
theorem dX10_load_75 : decode cX10_load 75 = .ok (.getfield 125, 3) := by decide +kernel
theorem dX10_load_78 : decode cX10_load 78 = .ok (.ireturn, 1) := by decide +kernel
set_option maxRecDepth 100000 in
theorem sp_X10_load (G : MG) (hG : (g_l G).stackTraces = false) (d : Nat) (hd : 10 ≤ d)   (σ : MsSt) (l0 : Nat) (l1 : Int32) (h0 : ms_kd l0 = 11) : MsSpec G mX10_load d 1 6 [.ref l0, .int l1] σ ms_ui (f_X10_load σ l0 l1) := by
  refine ms_start (by decide +kernel) rfl rfl (Nat.le_of_ble_eq_true rfl) ?_
  show TrO G mX10_load d 1 6 0 0 ms_ui 0 [(0, .ref l0), (1, .int l1)] [] σ (ms_bt (f_X10_needLength σ l0 l1 900) (ms_b2 (f_X8_readText σ (ms_rf l0 2) l1) fun v2 s3 => ms_nm (ms_si s3 (ms_rf l0 0) 1 0) fun s4 => ms_nm (ms_si s4 l0 13 (ms_i s4 (ms_rf l0 0) 8)) fun s5 => if v2 = 0 then (f_X6_takeOver s5 (ms_rf l0 1) (ms_rf (ms_rf l0 2) 1)).bind fun s6 => (f_X2_forget s6 (ms_rf l0 4)).bind fun s7 => ms_nm (ms_si s7 l0 12 0) fun s8 => some (.inl (ms_i s8 (ms_rf l0 1) 4), s8) else some (.inl ((-10) - v2), s5)) (fun e1 => some (.inr e1, σ)))
  refine tr_aload_n (i := 0) dX10_load_0 rfl ?_
  refine tr_iload_n (i := 1) dX10_load_1 rfl ?_
  refine tr_sipush (v := 900) dX10_load_2 (by decide +kernel) ?_
  refine tr_d_tv (ms_cV (rest := []) (al := [.int l1, .int 900]) 10 (sp_X10_needLength G hG (d - 1) (by omega) σ l0 l1 900 h0) h0 (by decide +kernel) kl_X10_107 fv_X10_needLength dX10_load_5 (show _ = some 2 by decide +kernel) (by omega) (Nat.le_of_ble_eq_true rfl) (by decide) (by decide)) rfl (by decide) (by decide) ?_ (fun e0 r h => by cases h; rfl)
  refine tr_aload_n (i := 0) dX10_load_8 rfl ?_
  refine tr_getR 10 h0 fl_X10_28 (by decide +kernel) dX10_load_9 ?_
  refine tr_iload_n (i := 1) dX10_load_12 rfl ?_
  refine tr_d_wi (ms_cV (rest := []) (al := [.int l1]) 8 (sp_X8_readText G hG (d - 1) (by omega) σ (ms_rf l0 2) l1 (rk_10_2 h0)) (rk_10_2 h0) (by decide +kernel) kl_X10_111 fv_X8_readText dX10_load_13 (show _ = some 1 by decide +kernel) (by omega) (Nat.le_of_ble_eq_true rfl) (by decide) (by decide)) (fun v2 s3 => ?_)
  refine tr_istore_n (lv' := [(0, .ref l0), (2, .int v2)]) [1, 0] dX10_load_16 (by decide) rfl ?_
  refine tr_aload_n (i := 0) dX10_load_17 rfl ?_
  refine tr_getR 10 h0 fl_X10_12 (by decide +kernel) dX10_load_18 ?_
  refine tr_iconst (v := 0) dX10_load_21 (by decide +kernel) ?_
  refine tr_putI 9 (rk_10_0 h0) fl_X10_104 (by decide +kernel) dX10_load_22 ?_
  refine ms_ltS (fun s4 => ?_)
  refine tr_aload_n (i := 0) dX10_load_25 rfl ?_
  refine tr_aload_n (i := 0) dX10_load_26 rfl ?_
  refine tr_getR 10 h0 fl_X10_12 (by decide +kernel) dX10_load_27 ?_
  refine tr_getI 9 (rk_10_0 h0) fl_X10_115 (by decide +kernel) dX10_load_30 ?_
  refine tr_putI 10 h0 fl_X10_93 (by decide +kernel) dX10_load_33 ?_
  refine ms_ltS (fun s5 => ?_)
  refine tr_iload_n (i := 1) dX10_load_36 rfl ?_
  refine tr_ifeq (o := none) (tgt := 45) dX10_load_37 (by decide) ?_ ?_
  · refine tr_aload_n (i := 0) dX10_load_45 rfl ?_
    refine tr_getR 10 h0 fl_X10_19 (by decide +kernel) dX10_load_46 ?_
    refine tr_aload_n (i := 0) dX10_load_49 rfl ?_
    refine tr_getR 10 h0 fl_X10_28 (by decide +kernel) dX10_load_50 ?_
    refine tr_getR 8 (rk_10_2 h0) fl_X10_116 (by decide +kernel) dX10_load_53 ?_
    refine tr_c_wv (ms_cV (rest := []) (al := [.ref (ms_rf (ms_rf l0 2) 1)]) 6 (sp_X6_takeOver G hG (d - 1) (by omega) s5 (ms_rf l0 1) (ms_rf (ms_rf l0 2) 1) (rk_10_1 h0) (rk_8_1 (rk_10_2 h0))) (rk_10_1 h0) (by decide +kernel) kl_X10_119 fv_X6_takeOver dX10_load_56 (show _ = some 1 by decide +kernel) (by omega) (Nat.le_of_ble_eq_true rfl) (by decide) (by decide)) (fun s6 => ?_)
    refine tr_aload_n (i := 0) dX10_load_59 rfl ?_
    refine tr_getR 10 h0 fl_X10_44 (by decide +kernel) dX10_load_60 ?_
    refine tr_c_wv (ms_cV (rest := []) (al := []) 2 (sp_X2_forget G hG (d - 1) (by omega) s6 (ms_rf l0 4) (rk_10_4 h0)) (rk_10_4 h0) (by decide +kernel) kl_X10_122 fv_X2_forget dX10_load_63 (show _ = some 0 by decide +kernel) (by omega) (Nat.le_of_ble_eq_true rfl) (by decide) (by decide)) (fun s7 => ?_)
    refine tr_aload_n (i := 0) dX10_load_66 rfl ?_
    refine tr_iconst (v := 0) dX10_load_67 (by decide +kernel) ?_
    refine tr_putB 10 h0 fl_X10_89 (by decide +kernel) (by decide) dX10_load_68 ?_
    refine ms_ltS (fun s8 => ?_)
    refine tr_aload_n (i := 0) dX10_load_71 rfl ?_
    refine tr_getR 10 h0 fl_X10_19 (by decide +kernel) dX10_load_72 ?_
    refine tr_getI 6 (rk_10_1 h0) fl_X10_125 (by decide +kernel) dX10_load_75 ?_
    exact tr_iret rfl rfl (by decide) (by decide) dX10_load_78
  · refine tr_bipush (v := (-10)) dX10_load_40 (by decide +kernel) ?_
    refine tr_iload_n (i := 1) dX10_load_42 rfl ?_
    refine tr_isub dX10_load_43 ?_
    exact tr_iret rfl rfl (by decide) (by decide) dX10_load_44
theorem dX10_errorPosition_0 : decode cX10_errorPosition 0 = .ok (.aload_n 0, 1) := by decide +kernel
theorem dX10_errorPosition_1 : decode cX10_errorPosition 1 = .ok (.getfield 93, 3) := by decide +kernel
theorem dX10_errorPosition_4 : decode cX10_errorPosition 4 = .ok (.ireturn, 1) := by decide +kernel
set_option maxRecDepth 100000 in
theorem sp_X10_errorPosition (G : MG) (hG : (g_l G).stackTraces = false) (d : Nat) (hd : 0 ≤ d)   (σ : MsSt) (l0 : Nat) (h0 : ms_kd l0 = 11) : MsSpec G mX10_errorPosition d 0 0 [.ref l0] σ (ms_ki σ) (f_X10_errorPosition σ l0) := by
  refine ms_start (by decide +kernel) rfl rfl (Nat.le_of_ble_eq_true rfl) ?_
  show TrO G mX10_errorPosition d 0 0 0 0 (ms_ki σ) 0 [(0, .ref l0)] [] σ (some (ms_i σ l0 13))
  refine tr_aload_n (i := 0) dX10_errorPosition_0 rfl ?_
  refine tr_getI 10 h0 fl_X10_93 (by decide +kernel) dX10_errorPosition_1 ?_
  exact tr_iret rfl rfl (by decide) (by decide) dX10_errorPosition_4
theorem dX10_needIn_0 : decode cX10_needIn 0 = .ok (.iload_n 0, 1) := by decide +kernel
theorem dX10_needIn_1 : decode cX10_needIn 1 = .ok (.iload_n 1, 1) := by decide +kernel
theorem dX10_needIn_2 : decode cX10_needIn 2 = .ok (.if_icmp .lt 8, 3) := by decide +kernel
theorem dX10_needIn_5 : decode cX10_needIn 5 = .ok (.iload_n 0, 1) := by decide +kernel
theorem dX10_needIn_6 : decode cX10_needIn 6 = .ok (.iload_n 2, 1) := by decide +kernel
theorem dX10_needIn_7 : decode cX10_needIn 7 = .ok (.if_icmp .le 14, 3) := by decide +kernel
theorem dX10_needIn_10 : decode cX10_needIn 10 = .ok (.new 163, 3) := by decide +kernel
theorem dX10_needIn_13 : decode cX10_needIn 13 = .ok (.dup, 1) := by decide +kernel
theorem dX10_needIn_14 : decode cX10_needIn 14 = .ok (.ldc_w 383, 3) := by decide +kernel
theorem dX10_needIn_17 : decode cX10_needIn 17 = .ok (.invokespecial 167, 3) := by decide +kernel
theorem dX10_needIn_20 : decode cX10_needIn 20 = .ok (.athrow, 1) := by decide +kernel
theorem dX10_needIn_21 : decode cX10_needIn 21 = .ok (.return_, 1) := by decide +kernel
set_option maxRecDepth 100000 in
theorem sp_X10_needIn (G : MG) (hG : (g_l G).stackTraces = false) (d : Nat) (hd : 6 ≤ d)   (σ : MsSt) (l0 : Int32) (l1 : Int32) (l2 : Int32) : MsSpec G mX10_needIn d 1 6 [.int l0, .int l1, .int l2] σ (ms_tv σ) (f_X10_needIn σ l0 l1 l2) := by
  refine ms_start (by decide +kernel) rfl rfl (Nat.le_of_ble_eq_true rfl) ?_
  show TrO G mX10_needIn d 1 6 0 0 (ms_tv σ) 0 [(0, .int l0), (1, .int l1), (2, .int l2)] [] σ (if l0 < l1 then some (some 0) else if l2 < l0 then some (some 0) else some none)
  refine tr_iload_n (i := 0) dX10_needIn_0 rfl ?_
  refine tr_iload_n (i := 1) dX10_needIn_1 rfl ?_
  refine tr_iclt (o := none) (tgt := 10) dX10_needIn_2 (by decide) ?_ ?_
  · exact tr_throwX (rest := []) 0 true hG th_X10_163_383 rfl rfl (by decide) (by decide) (by omega) (Nat.le_of_ble_eq_true rfl) dX10_needIn_10 dX10_needIn_13 dX10_needIn_14 dX10_needIn_17 dX10_needIn_20
  · refine tr_iload_n (i := 0) dX10_needIn_5 rfl ?_
    refine tr_iload_n (i := 2) dX10_needIn_6 rfl ?_
    refine tr_icle (o := none) (tgt := 21) dX10_needIn_7 (by decide) ?_ ?_
    · exact tr_vret rfl rfl (by decide) (by decide) dX10_needIn_21
    · exact tr_throwX (rest := []) 0 true hG th_X10_163_383 rfl rfl (by decide) (by decide) (by omega) (Nat.le_of_ble_eq_true rfl) dX10_needIn_10 dX10_needIn_13 dX10_needIn_14 dX10_needIn_17 dX10_needIn_20
theorem dX10_size_0 : decode cX10_size 0 = .ok (.iload_n 1, 1) := by decide +kernel
theorem dX10_size_1 : decode cX10_size 1 = .ok (.iconst 0, 1) := by decide +kernel
theorem dX10_size_2 : decode cX10_size 2 = .ok (.bipush 6, 2) := by decide +kernel
theorem dX10_size_4 : decode cX10_size 4 = .ok (.invokestatic 128, 3) := by decide +kernel
theorem dX10_size_7 : decode cX10_size 7 = .ok (.iload_n 1, 1) := by decide +kernel
theorem dX10_size_8 : decode cX10_size 8 = .ok (.tableswitch 91 0 5 #[40, 48, 57, 66, 75, 83], 40) := by decide +kernel
theorem dX10_size_48 : decode cX10_size 48 = .ok (.aload_n 0, 1) := by decide +kernel
theorem dX10_size_49 : decode cX10_size 49 = .ok (.getfield 19, 3) := by decide +kernel
theorem dX10_size_52 : decode cX10_size 52 = .ok (.getfield 125, 3) := by decide +kernel
theorem dX10_size_55 : decode cX10_size 55 = .ok (.ireturn, 1) := by decide +kernel
theorem dX10_size_56 : decode cX10_size 56 = .ok (.aload_n 0, 1) := by decide +kernel
theorem dX10_size_57 : decode cX10_size 57 = .ok (.getfield 19, 3) := by decide +kernel
theorem dX10_size_60 : decode cX10_size 60 = .ok (.iconst 0, 1) := by decide +kernel
theorem dX10_size_61 : decode cX10_size 61 = .ok (.invokevirtual 132, 3) := by decide +kernel
theorem dX10_size_64 : decode cX10_size 64 = .ok (.ireturn, 1) := by decide +kernel
theorem dX10_size_65 : decode cX10_size 65 = .ok (.aload_n 0, 1) := by decide +kernel
theorem dX10_size_66 : decode cX10_size 66 = .ok (.getfield 19, 3) := by decide +kernel
theorem dX10_size_69 : decode cX10_size 69 = .ok (.iconst 1, 1) := by decide +kernel
theorem dX10_size_70 : decode cX10_size 70 = .ok (.invokevirtual 132, 3) := by decide +kernel
theorem dX10_size_73 : decode cX10_size 73 = .ok (.ireturn, 1) := by decide +kernel
theorem dX10_size_74 : decode cX10_size 74 = .ok (.aload_n 0, 1) := by decide +kernel
theorem dX10_size_75 : decode cX10_size 75 = .ok (.getfield 19, 3) := by decide +kernel
theorem dX10_size_78 : decode cX10_size 78 = .ok (.iconst 2, 1) := by decide +kernel
theorem dX10_size_79 : decode cX10_size 79 = .ok (.invokevirtual 132, 3) := by decide +kernel
theorem dX10_size_82 : decode cX10_size 82 = .ok (.ireturn, 1) := by decide +kernel
theorem dX10_size_83 : decode cX10_size 83 = .ok (.aload_n 0, 1) := by decide +kernel
theorem dX10_size_84 : decode cX10_size 84 = .ok (.getfield 19, 3) := by decide +kernel
theorem dX10_size_87 : decode cX10_size 87 = .ok (.invokevirtual 135, 3) := by decide +kernel
theorem dX10_size_90 : decode cX10_size 90 = .ok (.ireturn, 1) := by decide +kernel
theorem dX10_size_91 : decode cX10_size 91 = .ok (.aload_n 0, 1) := by decide +kernel
theorem dX10_size_92 : decode cX10_size 92 = .ok (.getfield 19, 3) := by decide +kernel
theorem dX10_size_95 : decode cX10_size 95 = .ok (.getfield 139, 3) := by decide +kernel
theorem dX10_size_98 : decode cX10_size 98 = .ok (.ireturn, 1) := by decide +kernel
theorem dX10_size_99 : decode cX10_size 99 = .ok (.aload_n 0, 1) := by decide +kernel
theorem dX10_size_100 : decode cX10_size 100 = .ok (.getfield 19, 3) := by decide +kernel
theorem dX10_size_103 : decode cX10_size 103 = .ok (.getfield 142, 3) := by decide +kernel
theorem dX10_size_106 : decode cX10_size 106 = .ok (.ireturn, 1) := by decide +kernel
set_option maxRecDepth 100000 in
theorem sp_X10_size (G : MG) (hG : (g_l G).stackTraces = false) (d : Nat) (hd : 7 ≤ d)   (σ : MsSt) (l0 : Nat) (l1 : Int32) (h0 : ms_kd l0 = 11) : MsSpec G mX10_size d 1 6 [.ref l0, .int l1] σ (ms_ti σ) (f_X10_size σ l0 l1) := by
  refine ms_start (by decide +kernel) rfl rfl (Nat.le_of_ble_eq_true rfl) ?_
  show TrO G mX10_size d 1 6 0 0 (ms_ti σ) 0 [(0, .ref l0), (1, .int l1)] [] σ (ms_bt (f_X10_needIn σ l1 0 6) (if l1 = 0 then some (.inl (ms_i σ (ms_rf l0 1) 4)) else if l1 = 1 then (f_X6_countKind σ (ms_rf l0 1) 0).bind fun v2 => some (.inl v2) else if l1 = 2 then (f_X6_countKind σ (ms_rf l0 1) 1).bind fun v3 => some (.inl v3) else if l1 = 3 then (f_X6_countKind σ (ms_rf l0 1) 2).bind fun v4 => some (.inl v4) else if l1 = 4 then (f_X6_countSpare σ (ms_rf l0 1)).bind fun v5 => some (.inl v5) else if l1 = 5 then some (.inl (ms_i σ (ms_rf l0 1) 5)) else some (.inl (ms_i σ (ms_rf l0 1) 6))) (fun e1 => some (.inr e1)))
  refine tr_iload_n (i := 1) dX10_size_0 rfl ?_
  refine tr_iconst (v := 0) dX10_size_1 (by decide +kernel) ?_
  refine tr_bipush (v := 6) dX10_size_2 (by decide +kernel) ?_
  refine tr_d_tv (ms_cS (rest := []) (al := [.int l1, .int 0, .int 6]) (sp_X10_needIn G hG (d - 1) (by omega) σ l1 0 6) kl_X10_128 fs_X10_needIn dX10_size_4 (show _ = some 3 by decide +kernel) (by omega) (Nat.le_of_ble_eq_true rfl) (by decide) (by decide)) rfl (by decide) (by decide) ?_ (fun e0 r h => by cases h; rfl)
  refine tr_iload_n (i := 1) dX10_size_7 rfl ?_
  refine tr_tsIn (tgt := 48) (off := 40) 0 dX10_size_8 (by decide +kernel) (by decide +kernel) (by decide +kernel) (by decide) ?_ (fun n0 => ?_)
  · refine tr_aload_n (i := 0) dX10_size_48 rfl ?_
    refine tr_getR 10 h0 fl_X10_19 (by decide +kernel) dX10_size_49 ?_
    refine tr_getI 6 (rk_10_1 h0) fl_X10_125 (by decide +kernel) dX10_size_52 ?_
    exact tr_iret rfl rfl (by decide) (by decide) dX10_size_55
  refine tr_tsIn (tgt := 56) (off := 48) 1 dX10_size_8 (by decide +kernel) (by decide +kernel) (by decide +kernel) (by decide) ?_ (fun n1 => ?_)
  · refine tr_aload_n (i := 0) dX10_size_56 rfl ?_
    refine tr_getR 10 h0 fl_X10_19 (by decide +kernel) dX10_size_57 ?_
    refine tr_iconst (v := 0) dX10_size_60 (by decide +kernel) ?_
    refine tr_c_i (ms_cV (rest := []) (al := [.int 0]) 6 (sp_X6_countKind G hG (d - 1) (by omega) σ (ms_rf l0 1) 0 (rk_10_1 h0)) (rk_10_1 h0) (by decide +kernel) kl_X10_132 fv_X6_countKind dX10_size_61 (show _ = some 1 by decide +kernel) (by omega) (Nat.le_of_ble_eq_true rfl) (by decide) (by decide)) (fun v2 => ?_)
    exact tr_iret rfl rfl (by decide) (by decide) dX10_size_64
  refine tr_tsIn (tgt := 65) (off := 57) 2 dX10_size_8 (by decide +kernel) (by decide +kernel) (by decide +kernel) (by decide) ?_ (fun n2 => ?_)
  · refine tr_aload_n (i := 0) dX10_size_65 rfl ?_
    refine tr_getR 10 h0 fl_X10_19 (by decide +kernel) dX10_size_66 ?_
    refine tr_iconst (v := 1) dX10_size_69 (by decide +kernel) ?_
    refine tr_c_i (ms_cV (rest := []) (al := [.int 1]) 6 (sp_X6_countKind G hG (d - 1) (by omega) σ (ms_rf l0 1) 1 (rk_10_1 h0)) (rk_10_1 h0) (by decide +kernel) kl_X10_132 fv_X6_countKind dX10_size_70 (show _ = some 1 by decide +kernel) (by omega) (Nat.le_of_ble_eq_true rfl) (by decide) (by decide)) (fun v3 => ?_)
    exact tr_iret rfl rfl (by decide) (by decide) dX10_size_73
  refine tr_tsIn (tgt := 74) (off := 66) 3 dX10_size_8 (by decide +kernel) (by decide +kernel) (by decide +kernel) (by decide) ?_ (fun n3 => ?_)
  · refine tr_aload_n (i := 0) dX10_size_74 rfl ?_
    refine tr_getR 10 h0 fl_X10_19 (by decide +kernel) dX10_size_75 ?_
    refine tr_iconst (v := 2) dX10_size_78 (by decide +kernel) ?_
    refine tr_c_i (ms_cV (rest := []) (al := [.int 2]) 6 (sp_X6_countKind G hG (d - 1) (by omega) σ (ms_rf l0 1) 2 (rk_10_1 h0)) (rk_10_1 h0) (by decide +kernel) kl_X10_132 fv_X6_countKind dX10_size_79 (show _ = some 1 by decide +kernel) (by omega) (Nat.le_of_ble_eq_true rfl) (by decide) (by decide)) (fun v4 => ?_)
    exact tr_iret rfl rfl (by decide) (by decide) dX10_size_82
  refine tr_tsIn (tgt := 83) (off := 75) 4 dX10_size_8 (by decide +kernel) (by decide +kernel) (by decide +kernel) (by decide) ?_ (fun n4 => ?_)
  · refine tr_aload_n (i := 0) dX10_size_83 rfl ?_
    refine tr_getR 10 h0 fl_X10_19 (by decide +kernel) dX10_size_84 ?_
    refine tr_c_i (ms_cV (rest := []) (al := []) 6 (sp_X6_countSpare G hG (d - 1) (by omega) σ (ms_rf l0 1) (rk_10_1 h0)) (rk_10_1 h0) (by decide +kernel) kl_X10_135 fv_X6_countSpare dX10_size_87 (show _ = some 0 by decide +kernel) (by omega) (Nat.le_of_ble_eq_true rfl) (by decide) (by decide)) (fun v5 => ?_)
    exact tr_iret rfl rfl (by decide) (by decide) dX10_size_90
  refine tr_tsIn (tgt := 91) (off := 83) 5 dX10_size_8 (by decide +kernel) (by decide +kernel) (by decide +kernel) (by decide) ?_ (fun n5 => ?_)
  · refine tr_aload_n (i := 0) dX10_size_91 rfl ?_
    refine tr_getR 10 h0 fl_X10_19 (by decide +kernel) dX10_size_92 ?_
    refine tr_getI 6 (rk_10_1 h0) fl_X10_139 (by decide +kernel) dX10_size_95 ?_
    exact tr_iret rfl rfl (by decide) (by decide) dX10_size_98
  refine tr_tsOut (tgt := 99) dX10_size_8 ?_ (by decide) ?_
  · have q0 := lv_neT (a := 0) n0 (by decide +kernel); have q1 := lv_neT (a := 1) n1 (by decide +kernel); have q2 := lv_neT (a := 2) n2 (by decide +kernel); have q3 := lv_neT (a := 3) n3 (by decide +kernel); have q4 := lv_neT (a := 4) n4 (by decide +kernel); have q5 := lv_neT (a := 5) n5 (by decide +kernel); omega
  refine tr_aload_n (i := 0) dX10_size_99 rfl ?_
  refine tr_getR 10 h0 fl_X10_19 (by decide +kernel) dX10_size_100 ?_
  refine tr_getI 6 (rk_10_1 h0) fl_X10_142 (by decide +kernel) dX10_size_103 ?_
  exact tr_iret rfl rfl (by decide) (by decide) dX10_size_106
theorem dX10_needSign_0 : decode cX10_needSign 0 = .ok (.iload_n 1, 1) := by decide +kernel
theorem dX10_needSign_1 : decode cX10_needSign 1 = .ok (.iconst 0, 1) := by decide +kernel
theorem dX10_needSign_2 : decode cX10_needSign 2 = .ok (.aload_n 0, 1) := by decide +kernel
theorem dX10_needSign_3 : decode cX10_needSign 3 = .ok (.getfield 19, 3) := by decide +kernel
theorem dX10_needSign_6 : decode cX10_needSign 6 = .ok (.getfield 125, 3) := by decide +kernel
theorem dX10_needSign_9 : decode cX10_needSign 9 = .ok (.iconst 1, 1) := by decide +kernel
theorem dX10_needSign_10 : decode cX10_needSign 10 = .ok (.isub, 1) := by decide +kernel
theorem dX10_needSign_11 : decode cX10_needSign 11 = .ok (.invokestatic 128, 3) := by decide +kernel
theorem dX10_needSign_14 : decode cX10_needSign 14 = .ok (.return_, 1) := by decide +kernel
set_option maxRecDepth 100000 in
theorem sp_X10_needSign (G : MG) (hG : (g_l G).stackTraces = false) (d : Nat) (hd : 7 ≤ d)   (σ : MsSt) (l0 : Nat) (l1 : Int32) (h0 : ms_kd l0 = 11) : MsSpec G mX10_needSign d 1 6 [.ref l0, .int l1] σ (ms_tv σ) (f_X10_needSign σ l0 l1) := by
  refine ms_start (by decide +kernel) rfl rfl (Nat.le_of_ble_eq_true rfl) ?_
  show TrO G mX10_needSign d 1 6 0 0 (ms_tv σ) 0 [(0, .ref l0), (1, .int l1)] [] σ (ms_bt (f_X10_needIn σ l1 0 ((ms_i σ (ms_rf l0 1) 4) - 1)) (some none) (fun e1 => some (some e1)))
  refine tr_iload_n (i := 1) dX10_needSign_0 rfl ?_
  refine tr_iconst (v := 0) dX10_needSign_1 (by decide +kernel) ?_
  refine tr_aload_n (i := 0) dX10_needSign_2 rfl ?_
  refine tr_getR 10 h0 fl_X10_19 (by decide +kernel) dX10_needSign_3 ?_
  refine tr_getI 6 (rk_10_1 h0) fl_X10_125 (by decide +kernel) dX10_needSign_6 ?_
  refine tr_iconst (v := 1) dX10_needSign_9 (by decide +kernel) ?_
  refine tr_isub dX10_needSign_10 ?_
  refine tr_d_tv (ms_cS (rest := []) (al := [.int l1, .int 0, .int ((ms_i σ (ms_rf l0 1) 4) - 1)]) (sp_X10_needIn G hG (d - 1) (by omega) σ l1 0 ((ms_i σ (ms_rf l0 1) 4) - 1)) kl_X10_128 fs_X10_needIn dX10_needSign_11 (show _ = some 3 by decide +kernel) (by omega) (Nat.le_of_ble_eq_true rfl) (by decide) (by decide)) rfl (by decide) (by decide) ?_ (fun e0 r h => by cases h; rfl)
  exact tr_vret rfl rfl (by decide) (by decide) dX10_needSign_14
theorem dX10_sign_0 : decode cX10_sign 0 = .ok (.aload_n 0, 1) := by decide +kernel
theorem dX10_sign_1 : decode cX10_sign 1 = .ok (.iload_n 1, 1) := by decide +kernel
theorem dX10_sign_2 : decode cX10_sign 2 = .ok (.invokevirtual 145, 3) := by decide +kernel
theorem dX10_sign_5 : decode cX10_sign 5 = .ok (.iload_n 2, 1) := by decide +kernel
theorem dX10_sign_6 : decode cX10_sign 6 = .ok (.iconst 0, 1) := by decide +kernel
theorem dX10_sign_7 : decode cX10_sign 7 = .ok (.bipush 6, 2) := by decide +kernel
theorem dX10_sign_9 : decode cX10_sign 9 = .ok (.invokestatic 128, 3) := by decide +kernel
theorem dX10_sign_12 : decode cX10_sign 12 = .ok (.aload_n 0, 1) := by decide +kernel
theorem dX10_sign_13 : decode cX10_sign 13 = .ok (.getfield 19, 3) := by decide +kernel
theorem dX10_sign_16 : decode cX10_sign 16 = .ok (.iload_n 1, 1) := by decide +kernel
theorem dX10_sign_17 : decode cX10_sign 17 = .ok (.invokevirtual 148, 3) := by decide +kernel
theorem dX10_sign_20 : decode cX10_sign 20 = .ok (.astore_n 3, 1) := by decide +kernel
theorem dX10_sign_21 : decode cX10_sign 21 = .ok (.aload_n 3, 1) := by decide +kernel
theorem dX10_sign_22 : decode cX10_sign 22 = .ok (.getfield 152, 3) := by decide +kernel
theorem dX10_sign_25 : decode cX10_sign 25 = .ok (.iconst 2, 1) := by decide +kernel
theorem dX10_sign_26 : decode cX10_sign 26 = .ok (.if_icmp .ne 18, 3) := by decide +kernel
theorem dX10_sign_29 : decode cX10_sign 29 = .ok (.iload_n 2, 1) := by decide +kernel
theorem dX10_sign_30 : decode cX10_sign 30 = .ok (.bipush 6, 2) := by decide +kernel
theorem dX10_sign_32 : decode cX10_sign 32 = .ok (.if_icmp .ne 12, 3) := by decide +kernel
theorem dX10_sign_35 : decode cX10_sign 35 = .ok (.aload_n 0, 1) := by decide +kernel
theorem dX10_sign_36 : decode cX10_sign 36 = .ok (.getfield 19, 3) := by decide +kernel
theorem dX10_sign_39 : decode cX10_sign 39 = .ok (.iload_n 1, 1) := by decide +kernel
theorem dX10_sign_40 : decode cX10_sign 40 = .ok (.invokevirtual 157, 3) := by decide +kernel
theorem dX10_sign_43 : decode cX10_sign 43 = .ok (.ireturn, 1) := by decide +kernel
theorem dX10_sign_44 : decode cX10_sign 44 = .ok (.aload_n 3, 1) := by decide +kernel
theorem dX10_sign_45 : decode cX10_sign 45 = .ok (.iload_n 2, 1) := by decide +kernel
theorem dX10_sign_46 : decode cX10_sign 46 = .ok (.invokevirtual 160, 3) := by decide +kernel
theorem dX10_sign_49 : decode cX10_sign 49 = .ok (.ireturn, 1) := by decide +kernel
set_option maxRecDepth 100000 in
theorem sp_X10_sign (G : MG) (hG : (g_l G).stackTraces = false) (d : Nat) (hd : 8 ≤ d)   (σ : MsSt) (l0 : Nat) (l1 : Int32) (l2 : Int32) (h0 : ms_kd l0 = 11) : MsSpec G mX10_sign d 2 12 [.ref l0, .int l1, .int l2] σ (ms_ti σ) (f_X10_sign σ l0 l1 l2) := by
  refine ms_start (by decide +kernel) rfl rfl (Nat.le_of_ble_eq_true rfl) ?_
  show TrO G mX10_sign d 2 12 0 0 (ms_ti σ) 0 [(0, .ref l0), (1, .int l1), (2, .int l2)] [] σ (ms_bt (f_X10_needSign σ l0 l1) (ms_bt (f_X10_needIn σ l2 0 6) ((f_X6_told σ (ms_rf l0 1) l1).bind fun v3 => if (ms_i σ v3 1) = 2 then if l2 = 6 then (f_X6_countLinesWith σ (ms_rf l0 1) l1).bind fun v6 => some (.inl v6) else (f_X7_number σ v3 l2).bind fun v5 => some (.inl v5) else (f_X7_number σ v3 l2).bind fun v4 => some (.inl v4)) (fun e2 => some (.inr e2))) (fun e1 => some (.inr e1)))
  refine tr_aload_n (i := 0) dX10_sign_0 rfl ?_
  refine tr_iload_n (i := 1) dX10_sign_1 rfl ?_
  refine tr_d_tv (ms_cV (rest := []) (al := [.int l1]) 10 (sp_X10_needSign G hG (d - 1) (by omega) σ l0 l1 h0) h0 (by decide +kernel) kl_X10_145 fv_X10_needSign dX10_sign_2 (show _ = some 1 by decide +kernel) (by omega) (Nat.le_of_ble_eq_true rfl) (by decide) (by decide)) rfl (by decide) (by decide) ?_ (fun e0 r h => by cases h; rfl)
  refine tr_iload_n (i := 2) dX10_sign_5 rfl ?_
  refine tr_iconst (v := 0) dX10_sign_6 (by decide +kernel) ?_
  refine tr_bipush (v := 6) dX10_sign_7 (by decide +kernel) ?_
  refine tr_d_tv (ms_cS (rest := []) (al := [.int l2, .int 0, .int 6]) (sp_X10_needIn G hG (d - 1) (by omega) σ l2 0 6) kl_X10_128 fs_X10_needIn dX10_sign_9 (show _ = some 3 by decide +kernel) (by omega) (Nat.le_of_ble_eq_true rfl) (by decide) (by decide)) rfl (by decide) (by decide) ?_ (fun e0 r h => by cases h; rfl)
  refine tr_aload_n (i := 0) dX10_sign_12 rfl ?_
  refine tr_getR 10 h0 fl_X10_19 (by decide +kernel) dX10_sign_13 ?_
  refine tr_iload_n (i := 1) dX10_sign_16 rfl ?_
  refine tr_c_a (ms_cV (rest := []) (al := [.int l1]) 6 (sp_X6_told G hG (d - 1) (by omega) σ (ms_rf l0 1) l1 (rk_10_1 h0)) (rk_10_1 h0) (by decide +kernel) kl_X10_148 fv_X6_told dX10_sign_17 (show _ = some 1 by decide +kernel) (by omega) (Nat.le_of_ble_eq_true rfl) (by decide) (by decide)) (fun v3 e_v3 => ?_)
  refine tr_astore_n (lv' := [(0, .ref l0), (1, .int l1), (2, .int l2), (3, .ref v3)]) [1, 2, 3, 0] dX10_sign_20 (by decide) rfl ?_
  refine tr_aload_n (i := 3) dX10_sign_21 rfl ?_
  refine tr_getI 7 (ra_X6_told (rk_10_1 h0) e_v3) fl_X10_152 (by decide +kernel) dX10_sign_22 ?_
  refine tr_iconst (v := 2) dX10_sign_25 (by decide +kernel) ?_
  refine tr_icne (o := none) (tgt := 44) dX10_sign_26 (by decide) ?_ ?_
  · refine tr_aload_n (i := 3) dX10_sign_44 rfl ?_
    refine tr_iload_n (i := 2) dX10_sign_45 rfl ?_
    refine tr_c_i (ms_cV (rest := []) (al := [.int l2]) 7 (sp_X7_number G hG (d - 1) (by omega) σ v3 l2 (ra_X6_told (rk_10_1 h0) e_v3)) (ra_X6_told (rk_10_1 h0) e_v3) (by decide +kernel) kl_X10_160 fv_X7_number dX10_sign_46 (show _ = some 1 by decide +kernel) (by omega) (Nat.le_of_ble_eq_true rfl) (by decide) (by decide)) (fun v4 => ?_)
    exact tr_iret rfl rfl (by decide) (by decide) dX10_sign_49
  · refine tr_iload_n (i := 2) dX10_sign_29 rfl ?_
    refine tr_bipush (v := 6) dX10_sign_30 (by decide +kernel) ?_
    refine tr_icne (o := none) (tgt := 44) dX10_sign_32 (by decide) ?_ ?_
    · refine tr_aload_n (i := 3) dX10_sign_44 rfl ?_
      refine tr_iload_n (i := 2) dX10_sign_45 rfl ?_
      refine tr_c_i (ms_cV (rest := []) (al := [.int l2]) 7 (sp_X7_number G hG (d - 1) (by omega) σ v3 l2 (ra_X6_told (rk_10_1 h0) e_v3)) (ra_X6_told (rk_10_1 h0) e_v3) (by decide +kernel) kl_X10_160 fv_X7_number dX10_sign_46 (show _ = some 1 by decide +kernel) (by omega) (Nat.le_of_ble_eq_true rfl) (by decide) (by decide)) (fun v5 => ?_)
      exact tr_iret rfl rfl (by decide) (by decide) dX10_sign_49
    · refine tr_aload_n (i := 0) dX10_sign_35 rfl ?_
      refine tr_getR 10 h0 fl_X10_19 (by decide +kernel) dX10_sign_36 ?_
      refine tr_iload_n (i := 1) dX10_sign_39 rfl ?_
      refine tr_c_i (ms_cV (rest := []) (al := [.int l1]) 6 (sp_X6_countLinesWith G hG (d - 1) (by omega) σ (ms_rf l0 1) l1 (rk_10_1 h0)) (rk_10_1 h0) (by decide +kernel) kl_X10_157 fv_X6_countLinesWith dX10_sign_40 (show _ = some 1 by decide +kernel) (by omega) (Nat.le_of_ble_eq_true rfl) (by decide) (by decide)) (fun v6 => ?_)
      exact tr_iret rfl rfl (by decide) (by decide) dX10_sign_43
theorem dX10_letter_0 : decode cX10_letter 0 = .ok (.aload_n 0, 1) := by decide +kernel
theorem dX10_letter_1 : decode cX10_letter 1 = .ok (.iload_n 1, 1) := by decide +kernel
theorem dX10_letter_2 : decode cX10_letter 2 = .ok (.invokevirtual 145, 3) := by decide +kernel
theorem dX10_letter_5 : decode cX10_letter 5 = .ok (.iload_n 2, 1) := by decide +kernel
theorem dX10_letter_6 : decode cX10_letter 6 = .ok (.ifCond .ge 13, 3) := by decide +kernel
theorem dX10_letter_9 : decode cX10_letter 9 = .ok (.new 163, 3) := by decide +kernel
theorem dX10_letter_12 : decode cX10_letter 12 = .ok (.dup, 1) := by decide +kernel
theorem dX10_letter_13 : decode cX10_letter 13 = .ok (.ldc 165, 2) := by decide +kernel
theorem dX10_letter_15 : decode cX10_letter 15 = .ok (.invokespecial 167, 3) := by decide +kernel
theorem dX10_letter_18 : decode cX10_letter 18 = .ok (.athrow, 1) := by decide +kernel
theorem dX10_letter_19 : decode cX10_letter 19 = .ok (.aload_n 0, 1) := by decide +kernel
theorem dX10_letter_20 : decode cX10_letter 20 = .ok (.getfield 19, 3) := by decide +kernel
theorem dX10_letter_23 : decode cX10_letter 23 = .ok (.iload_n 1, 1) := by decide +kernel
theorem dX10_letter_24 : decode cX10_letter 24 = .ok (.invokevirtual 148, 3) := by decide +kernel
theorem dX10_letter_27 : decode cX10_letter 27 = .ok (.iload_n 2, 1) := by decide +kernel
theorem dX10_letter_28 : decode cX10_letter 28 = .ok (.invokevirtual 170, 3) := by decide +kernel
theorem dX10_letter_31 : decode cX10_letter 31 = .ok (.ireturn, 1) := by decide +kernel
set_option maxRecDepth 100000 in
theorem sp_X10_letter (G : MG) (hG : (g_l G).stackTraces = false) (d : Nat) (hd : 8 ≤ d)   (σ : MsSt) (l0 : Nat) (l1 : Int32) (l2 : Int32) (h0 : ms_kd l0 = 11) : MsSpec G mX10_letter d 2 12 [.ref l0, .int l1, .int l2] σ (ms_ti σ) (f_X10_letter σ l0 l1 l2) := by
  refine ms_start (by decide +kernel) rfl rfl (Nat.le_of_ble_eq_true rfl) ?_
  show TrO G mX10_letter d 2 12 0 0 (ms_ti σ) 0 [(0, .ref l0), (1, .int l1), (2, .int l2)] [] σ (ms_bt (f_X10_needSign σ l0 l1) (if l2 < 0 then some (.inr 0) else (f_X6_told σ (ms_rf l0 1) l1).bind fun v2 => (f_X7_letterAt σ v2 l2).bind fun v3 => some (.inl v3)) (fun e1 => some (.inr e1)))
  refine tr_aload_n (i := 0) dX10_letter_0 rfl ?_
  refine tr_iload_n (i := 1) dX10_letter_1 rfl ?_
  refine tr_d_tv (ms_cV (rest := []) (al := [.int l1]) 10 (sp_X10_needSign G hG (d - 1) (by omega) σ l0 l1 h0) h0 (by decide +kernel) kl_X10_145 fv_X10_needSign dX10_letter_2 (show _ = some 1 by decide +kernel) (by omega) (Nat.le_of_ble_eq_true rfl) (by decide) (by decide)) rfl (by decide) (by decide) ?_ (fun e0 r h => by cases h; rfl)
  refine tr_iload_n (i := 2) dX10_letter_5 rfl ?_
  refine tr_ifge (o := none) (tgt := 19) dX10_letter_6 (by decide) ?_ ?_
  · refine tr_aload_n (i := 0) dX10_letter_19 rfl ?_
    refine tr_getR 10 h0 fl_X10_19 (by decide +kernel) dX10_letter_20 ?_
    refine tr_iload_n (i := 1) dX10_letter_23 rfl ?_
    refine tr_c_a (ms_cV (rest := []) (al := [.int l1]) 6 (sp_X6_told G hG (d - 1) (by omega) σ (ms_rf l0 1) l1 (rk_10_1 h0)) (rk_10_1 h0) (by decide +kernel) kl_X10_148 fv_X6_told dX10_letter_24 (show _ = some 1 by decide +kernel) (by omega) (Nat.le_of_ble_eq_true rfl) (by decide) (by decide)) (fun v2 e_v2 => ?_)
    refine tr_iload_n (i := 2) dX10_letter_27 rfl ?_
    refine tr_c_i (ms_cV (rest := []) (al := [.int l2]) 7 (sp_X7_letterAt G hG (d - 1) (by omega) σ v2 l2 (ra_X6_told (rk_10_1 h0) e_v2)) (ra_X6_told (rk_10_1 h0) e_v2) (by decide +kernel) kl_X10_170 fv_X7_letterAt dX10_letter_28 (show _ = some 1 by decide +kernel) (by omega) (Nat.le_of_ble_eq_true rfl) (by decide) (by decide)) (fun v3 => ?_)
    exact tr_iret rfl rfl (by decide) (by decide) dX10_letter_31
  · exact tr_throwX (rest := []) 0 false hG th_X10_163_165 rfl rfl (by decide) (by decide) (by omega) (Nat.le_of_ble_eq_true rfl) dX10_letter_9 dX10_letter_12 dX10_letter_13 dX10_letter_15 dX10_letter_18
theorem dX10_expanded_0 : decode cX10_expanded 0 = .ok (.aload_n 0, 1) := by decide +kernel
theorem dX10_expanded_1 : decode cX10_expanded 1 = .ok (.iload_n 1, 1) := by decide +kernel
theorem dX10_expanded_2 : decode cX10_expanded 2 = .ok (.invokevirtual 145, 3) := by decide +kernel
theorem dX10_expanded_5 : decode cX10_expanded 5 = .ok (.aload_n 0, 1) := by decide +kernel
theorem dX10_expanded_6 : decode cX10_expanded 6 = .ok (.getfield 19, 3) := by decide +kernel
theorem dX10_expanded_9 : decode cX10_expanded 9 = .ok (.iload_n 1, 1) := by decide +kernel
theorem dX10_expanded_10 : decode cX10_expanded 10 = .ok (.invokevirtual 148, 3) := by decide +kernel
theorem dX10_expanded_13 : decode cX10_expanded 13 = .ok (.astore_n 3, 1) := by decide +kernel
theorem dX10_expanded_14 : decode cX10_expanded 14 = .ok (.iload_n 2, 1) := by decide +kernel
theorem dX10_expanded_15 : decode cX10_expanded 15 = .ok (.iconst 0, 1) := by decide +kernel
theorem dX10_expanded_16 : decode cX10_expanded 16 = .ok (.aload_n 3, 1) := by decide +kernel
theorem dX10_expanded_17 : decode cX10_expanded 17 = .ok (.getfield 173, 3) := by decide +kernel
theorem dX10_expanded_20 : decode cX10_expanded 20 = .ok (.iconst 1, 1) := by decide +kernel
theorem dX10_expanded_21 : decode cX10_expanded 21 = .ok (.isub, 1) := by decide +kernel
theorem dX10_expanded_22 : decode cX10_expanded 22 = .ok (.invokestatic 128, 3) := by decide +kernel
theorem dX10_expanded_25 : decode cX10_expanded 25 = .ok (.aload_n 3, 1) := by decide +kernel
theorem dX10_expanded_26 : decode cX10_expanded 26 = .ok (.iload_n 2, 1) := by decide +kernel
theorem dX10_expanded_27 : decode cX10_expanded 27 = .ok (.invokevirtual 176, 3) := by decide +kernel
theorem dX10_expanded_30 : decode cX10_expanded 30 = .ok (.ireturn, 1) := by decide +kernel
set_option maxRecDepth 100000 in
theorem sp_X10_expanded (G : MG) (hG : (g_l G).stackTraces = false) (d : Nat) (hd : 8 ≤ d)   (σ : MsSt) (l0 : Nat) (l1 : Int32) (l2 : Int32) (h0 : ms_kd l0 = 11) : MsSpec G mX10_expanded d 2 12 [.ref l0, .int l1, .int l2] σ (ms_ti σ) (f_X10_expanded σ l0 l1 l2) := by
  refine ms_start (by decide +kernel) rfl rfl (Nat.le_of_ble_eq_true rfl) ?_
  show TrO G mX10_expanded d 2 12 0 0 (ms_ti σ) 0 [(0, .ref l0), (1, .int l1), (2, .int l2)] [] σ (ms_bt (f_X10_needSign σ l0 l1) ((f_X6_told σ (ms_rf l0 1) l1).bind fun v2 => ms_bt (f_X10_needIn σ l2 0 ((ms_i σ v2 3) - 1)) ((f_X7_part σ v2 l2).bind fun v4 => some (.inl v4)) (fun e3 => some (.inr e3))) (fun e1 => some (.inr e1)))
  refine tr_aload_n (i := 0) dX10_expanded_0 rfl ?_
  refine tr_iload_n (i := 1) dX10_expanded_1 rfl ?_
  refine tr_d_tv (ms_cV (rest := []) (al := [.int l1]) 10 (sp_X10_needSign G hG (d - 1) (by omega) σ l0 l1 h0) h0 (by decide +kernel) kl_X10_145 fv_X10_needSign dX10_expanded_2 (show _ = some 1 by decide +kernel) (by omega) (Nat.le_of_ble_eq_true rfl) (by decide) (by decide)) rfl (by decide) (by decide) ?_ (fun e0 r h => by cases h; rfl)
  refine tr_aload_n (i := 0) dX10_expanded_5 rfl ?_
  refine tr_getR 10 h0 fl_X10_19 (by decide +kernel) dX10_expanded_6 ?_
  refine tr_iload_n (i := 1) dX10_expanded_9 rfl ?_
  refine tr_c_a (ms_cV (rest := []) (al := [.int l1]) 6 (sp_X6_told G hG (d - 1) (by omega) σ (ms_rf l0 1) l1 (rk_10_1 h0)) (rk_10_1 h0) (by decide +kernel) kl_X10_148 fv_X6_told dX10_expanded_10 (show _ = some 1 by decide +kernel) (by omega) (Nat.le_of_ble_eq_true rfl) (by decide) (by decide)) (fun v2 e_v2 => ?_)
  refine tr_astore_n (lv' := [(2, .int l2), (3, .ref v2)]) [3, 0] dX10_expanded_13 (by decide) rfl ?_
  refine tr_iload_n (i := 0) dX10_expanded_14 rfl ?_
  refine tr_iconst (v := 0) dX10_expanded_15 (by decide +kernel) ?_
  refine tr_aload_n (i := 1) dX10_expanded_16 rfl ?_
  refine tr_getI 7 (ra_X6_told (rk_10_1 h0) e_v2) fl_X10_173 (by decide +kernel) dX10_expanded_17 ?_
  refine tr_iconst (v := 1) dX10_expanded_20 (by decide +kernel) ?_
  refine tr_isub dX10_expanded_21 ?_
  refine tr_d_tv (ms_cS (rest := []) (al := [.int l2, .int 0, .int ((ms_i σ v2 3) - 1)]) (sp_X10_needIn G hG (d - 1) (by omega) σ l2 0 ((ms_i σ v2 3) - 1)) kl_X10_128 fs_X10_needIn dX10_expanded_22 (show _ = some 3 by decide +kernel) (by omega) (Nat.le_of_ble_eq_true rfl) (by decide) (by decide)) rfl (by decide) (by decide) ?_ (fun e0 r h => by cases h; rfl)
  refine tr_aload_n (i := 1) dX10_expanded_25 rfl ?_
  refine tr_iload_n (i := 0) dX10_expanded_26 rfl ?_
  refine tr_c_i (ms_cV (rest := []) (al := [.int l2]) 7 (sp_X7_part G hG (d - 1) (by omega) σ v2 l2 (ra_X6_told (rk_10_1 h0) e_v2)) (ra_X6_told (rk_10_1 h0) e_v2) (by decide +kernel) kl_X10_176 fv_X7_part dX10_expanded_27 (show _ = some 1 by decide +kernel) (by omega) (Nat.le_of_ble_eq_true rfl) (by decide) (by decide)) (fun v4 => ?_)
  exact tr_iret rfl rfl (by decide) (by decide) dX10_expanded_30
theorem dX10_pairOf_0 : decode cX10_pairOf 0 = .ok (.aload_n 0, 1) := by decide +kernel
theorem dX10_pairOf_1 : decode cX10_pairOf 1 = .ok (.iload_n 1, 1) := by decide +kernel
theorem dX10_pairOf_2 : decode cX10_pairOf 2 = .ok (.invokevirtual 145, 3) := by decide +kernel
theorem dX10_pairOf_5 : decode cX10_pairOf 5 = .ok (.aload_n 0, 1) := by decide +kernel
theorem dX10_pairOf_6 : decode cX10_pairOf 6 = .ok (.iload_n 2, 1) := by decide +kernel
theorem dX10_pairOf_7 : decode cX10_pairOf 7 = .ok (.invokevirtual 145, 3) := by decide +kernel
theorem dX10_pairOf_10 : decode cX10_pairOf 10 = .ok (.aload_n 0, 1) := by decide +kernel
theorem dX10_pairOf_11 : decode cX10_pairOf 11 = .ok (.getfield 19, 3) := by decide +kernel
theorem dX10_pairOf_14 : decode cX10_pairOf 14 = .ok (.iload_n 1, 1) := by decide +kernel
theorem dX10_pairOf_15 : decode cX10_pairOf 15 = .ok (.iload_n 2, 1) := by decide +kernel
theorem dX10_pairOf_16 : decode cX10_pairOf 16 = .ok (.invokevirtual 179, 3) := by decide +kernel
theorem dX10_pairOf_19 : decode cX10_pairOf 19 = .ok (.ireturn, 1) := by decide +kernel
set_option maxRecDepth 100000 in
theorem sp_X10_pairOf (G : MG) (hG : (g_l G).stackTraces = false) (d : Nat) (hd : 8 ≤ d)   (σ : MsSt) (l0 : Nat) (l1 : Int32) (l2 : Int32) (h0 : ms_kd l0 = 11) : MsSpec G mX10_pairOf d 2 12 [.ref l0, .int l1, .int l2] σ (ms_ti σ) (f_X10_pairOf σ l0 l1 l2) := by
  refine ms_start (by decide +kernel) rfl rfl (Nat.le_of_ble_eq_true rfl) ?_
  show TrO G mX10_pairOf d 2 12 0 0 (ms_ti σ) 0 [(0, .ref l0), (1, .int l1), (2, .int l2)] [] σ (ms_bt (f_X10_needSign σ l0 l1) (ms_bt (f_X10_needSign σ l0 l2) ((f_X6_findPair σ (ms_rf l0 1) l1 l2).bind fun v3 => some (.inl v3)) (fun e2 => some (.inr e2))) (fun e1 => some (.inr e1)))
  refine tr_aload_n (i := 0) dX10_pairOf_0 rfl ?_
  refine tr_iload_n (i := 1) dX10_pairOf_1 rfl ?_
  refine tr_d_tv (ms_cV (rest := []) (al := [.int l1]) 10 (sp_X10_needSign G hG (d - 1) (by omega) σ l0 l1 h0) h0 (by decide +kernel) kl_X10_145 fv_X10_needSign dX10_pairOf_2 (show _ = some 1 by decide +kernel) (by omega) (Nat.le_of_ble_eq_true rfl) (by decide) (by decide)) rfl (by decide) (by decide) ?_ (fun e0 r h => by cases h; rfl)
  refine tr_aload_n (i := 0) dX10_pairOf_5 rfl ?_
  refine tr_iload_n (i := 2) dX10_pairOf_6 rfl ?_
  refine tr_d_tv (ms_cV (rest := []) (al := [.int l2]) 10 (sp_X10_needSign G hG (d - 1) (by omega) σ l0 l2 h0) h0 (by decide +kernel) kl_X10_145 fv_X10_needSign dX10_pairOf_7 (show _ = some 1 by decide +kernel) (by omega) (Nat.le_of_ble_eq_true rfl) (by decide) (by decide)) rfl (by decide) (by decide) ?_ (fun e0 r h => by cases h; rfl)
  refine tr_aload_n (i := 0) dX10_pairOf_10 rfl ?_
  refine tr_getR 10 h0 fl_X10_19 (by decide +kernel) dX10_pairOf_11 ?_
  refine tr_iload_n (i := 1) dX10_pairOf_14 rfl ?_
  refine tr_iload_n (i := 2) dX10_pairOf_15 rfl ?_
  refine tr_c_i (ms_cV (rest := []) (al := [.int l1, .int l2]) 6 (sp_X6_findPair G hG (d - 1) (by omega) σ (ms_rf l0 1) l1 l2 (rk_10_1 h0)) (rk_10_1 h0) (by decide +kernel) kl_X10_179 fv_X6_findPair dX10_pairOf_16 (show _ = some 2 by decide +kernel) (by omega) (Nat.le_of_ble_eq_true rfl) (by decide) (by decide)) (fun v3 => ?_)
  exact tr_iret rfl rfl (by decide) (by decide) dX10_pairOf_19
theorem dX10_used_0 : decode cX10_used 0 = .ok (.aload_n 0, 1) := by decide +kernel
theorem dX10_used_1 : decode cX10_used 1 = .ok (.iload_n 1, 1) := by decide +kernel
theorem dX10_used_2 : decode cX10_used 2 = .ok (.invokevirtual 145, 3) := by decide +kernel
theorem dX10_used_5 : decode cX10_used 5 = .ok (.aload_n 0, 1) := by decide +kernel
theorem dX10_used_6 : decode cX10_used 6 = .ok (.getfield 19, 3) := by decide +kernel
theorem dX10_used_9 : decode cX10_used 9 = .ok (.iload_n 1, 1) := by decide +kernel
theorem dX10_used_10 : decode cX10_used 10 = .ok (.invokevirtual 183, 3) := by decide +kernel
theorem dX10_used_13 : decode cX10_used 13 = .ok (.ireturn, 1) := by decide +kernel
set_option maxRecDepth 100000 in
theorem sp_X10_used (G : MG) (hG : (g_l G).stackTraces = false) (d : Nat) (hd : 8 ≤ d)   (σ : MsSt) (l0 : Nat) (l1 : Int32) (h0 : ms_kd l0 = 11) : MsSpec G mX10_used d 1 6 [.ref l0, .int l1] σ (ms_ti σ) (f_X10_used σ l0 l1) := by
  refine ms_start (by decide +kernel) rfl rfl (Nat.le_of_ble_eq_true rfl) ?_
  show TrO G mX10_used d 1 6 0 0 (ms_ti σ) 0 [(0, .ref l0), (1, .int l1)] [] σ (ms_bt (f_X10_needSign σ l0 l1) ((f_X6_countExpandedWith σ (ms_rf l0 1) l1).bind fun v2 => some (.inl v2)) (fun e1 => some (.inr e1)))
  refine tr_aload_n (i := 0) dX10_used_0 rfl ?_
  refine tr_iload_n (i := 1) dX10_used_1 rfl ?_
  refine tr_d_tv (ms_cV (rest := []) (al := [.int l1]) 10 (sp_X10_needSign G hG (d - 1) (by omega) σ l0 l1 h0) h0 (by decide +kernel) kl_X10_145 fv_X10_needSign dX10_used_2 (show _ = some 1 by decide +kernel) (by omega) (Nat.le_of_ble_eq_true rfl) (by decide) (by decide)) rfl (by decide) (by decide) ?_ (fun e0 r h => by cases h; rfl)
  refine tr_aload_n (i := 0) dX10_used_5 rfl ?_
  refine tr_getR 10 h0 fl_X10_19 (by decide +kernel) dX10_used_6 ?_
  refine tr_iload_n (i := 1) dX10_used_9 rfl ?_
  refine tr_c_i (ms_cV (rest := []) (al := [.int l1]) 6 (sp_X6_countExpandedWith G hG (d - 1) (by omega) σ (ms_rf l0 1) l1 (rk_10_1 h0)) (rk_10_1 h0) (by decide +kernel) kl_X10_183 fv_X6_countExpandedWith dX10_used_10 (show _ = some 1 by decide +kernel) (by omega) (Nat.le_of_ble_eq_true rfl) (by decide) (by decide)) (fun v2 => ?_)
  exact tr_iret rfl rfl (by decide) (by decide) dX10_used_13
theorem dX10_recomposed_0 : decode cX10_recomposed 0 = .ok (.aload_n 0, 1) := by decide +kernel
theorem dX10_recomposed_1 : decode cX10_recomposed 1 = .ok (.iload_n 1, 1) := by decide +kernel
theorem dX10_recomposed_2 : decode cX10_recomposed 2 = .ok (.invokevirtual 145, 3) := by decide +kernel
theorem dX10_recomposed_5 : decode cX10_recomposed 5 = .ok (.aload_n 0, 1) := by decide +kernel
theorem dX10_recomposed_6 : decode cX10_recomposed 6 = .ok (.getfield 82, 3) := by decide +kernel
theorem dX10_recomposed_9 : decode cX10_recomposed 9 = .ok (.invokevirtual 186, 3) := by decide +kernel
theorem dX10_recomposed_12 : decode cX10_recomposed 12 = .ok (.aload_n 0, 1) := by decide +kernel
theorem dX10_recomposed_13 : decode cX10_recomposed 13 = .ok (.getfield 82, 3) := by decide +kernel
theorem dX10_recomposed_16 : decode cX10_recomposed 16 = .ok (.iload_n 1, 1) := by decide +kernel
theorem dX10_recomposed_17 : decode cX10_recomposed 17 = .ok (.invokevirtual 189, 3) := by decide +kernel
theorem dX10_recomposed_20 : decode cX10_recomposed 20 = .ok (.aload_n 0, 1) := by decide +kernel
theorem dX10_recomposed_21 : decode cX10_recomposed 21 = .ok (.getfield 60, 3) := by decide +kernel
theorem dX10_recomposed_24 : decode cX10_recomposed 24 = .ok (.aload_n 0, 1) := by decide +kernel
theorem dX10_recomposed_25 : decode cX10_recomposed 25 = .ok (.getfield 82, 3) := by decide +kernel
theorem dX10_recomposed_28 : decode cX10_recomposed 28 = .ok (.iconst (-1), 1) := by decide +kernel
theorem dX10_recomposed_29 : decode cX10_recomposed 29 = .ok (.invokevirtual 192, 3) := by decide +kernel
theorem dX10_recomposed_32 : decode cX10_recomposed 32 = .ok (.aload_n 0, 1) := by decide +kernel
theorem dX10_recomposed_33 : decode cX10_recomposed 33 = .ok (.getfield 60, 3) := by decide +kernel
theorem dX10_recomposed_36 : decode cX10_recomposed 36 = .ok (.getfield 196, 3) := by decide +kernel
theorem dX10_recomposed_39 : decode cX10_recomposed 39 = .ok (.iconst 0, 1) := by decide +kernel
theorem dX10_recomposed_40 : decode cX10_recomposed 40 = .ok (.invokevirtual 199, 3) := by decide +kernel
theorem dX10_recomposed_43 : decode cX10_recomposed 43 = .ok (.ireturn, 1) := by decide +kernel
set_option maxRecDepth 100000 in
theorem sp_X10_recomposed (G : MG) (hG : (g_l G).stackTraces = false) (d : Nat) (hd : 8 ≤ d)   (σ : MsSt) (l0 : Nat) (l1 : Int32) (h0 : ms_kd l0 = 11) : MsSpec G mX10_recomposed d 1 6 [.ref l0, .int l1] σ ms_ui (f_X10_recomposed σ l0 l1) := by
  refine ms_start (by decide +kernel) rfl rfl (Nat.le_of_ble_eq_true rfl) ?_
  show TrO G mX10_recomposed d 1 6 0 0 ms_ui 0 [(0, .ref l0), (1, .int l1)] [] σ (ms_bt (f_X10_needSign σ l0 l1) ((f_X5_clear σ (ms_rf l0 10)).bind fun s2 => (f_X5_add s2 (ms_rf l0 10) l1).bind fun s3 => (f_X1_derive s3 (ms_rf l0 6) (ms_rf l0 10) (-1)).bind fun s4 => (f_X5_get s4 (ms_rf (ms_rf l0 6) 3) 0).bind fun v5 => some (.inl v5, s4)) (fun e1 => some (.inr e1, σ)))
  refine tr_aload_n (i := 0) dX10_recomposed_0 rfl ?_
  refine tr_iload_n (i := 1) dX10_recomposed_1 rfl ?_
  refine tr_d_tv (ms_cV (rest := []) (al := [.int l1]) 10 (sp_X10_needSign G hG (d - 1) (by omega) σ l0 l1 h0) h0 (by decide +kernel) kl_X10_145 fv_X10_needSign dX10_recomposed_2 (show _ = some 1 by decide +kernel) (by omega) (Nat.le_of_ble_eq_true rfl) (by decide) (by decide)) rfl (by decide) (by decide) ?_ (fun e0 r h => by cases h; rfl)
  refine tr_aload_n (i := 0) dX10_recomposed_5 rfl ?_
  refine tr_getR 10 h0 fl_X10_82 (by decide +kernel) dX10_recomposed_6 ?_
  refine tr_c_wv (ms_cV (rest := []) (al := []) 5 (sp_X5_clear G hG (d - 1) (by omega) σ (ms_rf l0 10) (rk_10_10 h0)) (rk_10_10 h0) (by decide +kernel) kl_X10_186 fv_X5_clear dX10_recomposed_9 (show _ = some 0 by decide +kernel) (by omega) (Nat.le_of_ble_eq_true rfl) (by decide) (by decide)) (fun s2 => ?_)
  refine tr_aload_n (i := 0) dX10_recomposed_12 rfl ?_
  refine tr_getR 10 h0 fl_X10_82 (by decide +kernel) dX10_recomposed_13 ?_
  refine tr_iload_n (i := 1) dX10_recomposed_16 rfl ?_
  refine tr_c_wv (ms_cV (rest := []) (al := [.int l1]) 5 (sp_X5_add G hG (d - 1) (by omega) s2 (ms_rf l0 10) l1 (rk_10_10 h0)) (rk_10_10 h0) (by decide +kernel) kl_X10_189 fv_X5_add dX10_recomposed_17 (show _ = some 1 by decide +kernel) (by omega) (Nat.le_of_ble_eq_true rfl) (by decide) (by decide)) (fun s3 => ?_)
  refine tr_aload_n (i := 0) dX10_recomposed_20 rfl ?_
  refine tr_getR 10 h0 fl_X10_60 (by decide +kernel) dX10_recomposed_21 ?_
  refine tr_aload_n (i := 0) dX10_recomposed_24 rfl ?_
  refine tr_getR 10 h0 fl_X10_82 (by decide +kernel) dX10_recomposed_25 ?_
  refine tr_iconst (v := (-1)) dX10_recomposed_28 (by decide +kernel) ?_
  refine tr_c_wv (ms_cV (rest := []) (al := [.ref (ms_rf l0 10), .int (-1)]) 1 (sp_X1_derive G hG (d - 1) (by omega) s3 (ms_rf l0 6) (ms_rf l0 10) (-1) (rk_10_6 h0) (rk_10_10 h0)) (rk_10_6 h0) (by decide +kernel) kl_X10_192 fv_X1_derive dX10_recomposed_29 (show _ = some 2 by decide +kernel) (by omega) (Nat.le_of_ble_eq_true rfl) (by decide) (by decide)) (fun s4 => ?_)
  refine tr_aload_n (i := 0) dX10_recomposed_32 rfl ?_
  refine tr_getR 10 h0 fl_X10_60 (by decide +kernel) dX10_recomposed_33 ?_
  refine tr_getR 1 (rk_10_6 h0) fl_X10_196 (by decide +kernel) dX10_recomposed_36 ?_
  refine tr_iconst (v := 0) dX10_recomposed_39 (by decide +kernel) ?_
  refine tr_c_i (ms_cV (rest := []) (al := [.int 0]) 5 (sp_X5_get G hG (d - 1) (by omega) s4 (ms_rf (ms_rf l0 6) 3) 0 (rk_1_3 (rk_10_6 h0))) (rk_1_3 (rk_10_6 h0)) (by decide +kernel) kl_X10_199 fv_X5_get dX10_recomposed_40 (show _ = some 1 by decide +kernel) (by omega) (Nat.le_of_ble_eq_true rfl) (by decide) (by decide)) (fun v5 => ?_)
  exact tr_iret rfl rfl (by decide) (by decide) dX10_recomposed_43
theorem dX10_needLine_0 : decode cX10_needLine 0 = .ok (.iload_n 1, 1) := by decide +kernel
theorem dX10_needLine_1 : decode cX10_needLine 1 = .ok (.iconst 0, 1) := by decide +kernel
theorem dX10_needLine_2 : decode cX10_needLine 2 = .ok (.aload_n 0, 1) := by decide +kernel
theorem dX10_needLine_3 : decode cX10_needLine 3 = .ok (.getfield 19, 3) := by decide +kernel
theorem dX10_needLine_6 : decode cX10_needLine 6 = .ok (.getfield 139, 3) := by decide +kernel
theorem dX10_needLine_9 : decode cX10_needLine 9 = .ok (.iconst 1, 1) := by decide +kernel
theorem dX10_needLine_10 : decode cX10_needLine 10 = .ok (.isub, 1) := by decide +kernel
theorem dX10_needLine_11 : decode cX10_needLine 11 = .ok (.invokestatic 128, 3) := by decide +kernel
theorem dX10_needLine_14 : decode cX10_needLine 14 = .ok (.return_, 1) := by decide +kernel
set_option maxRecDepth 100000 in
theorem sp_X10_needLine (G : MG) (hG : (g_l G).stackTraces = false) (d : Nat) (hd : 7 ≤ d)   (σ : MsSt) (l0 : Nat) (l1 : Int32) (h0 : ms_kd l0 = 11) : MsSpec G mX10_needLine d 1 6 [.ref l0, .int l1] σ (ms_tv σ) (f_X10_needLine σ l0 l1) := by
  refine ms_start (by decide +kernel) rfl rfl (Nat.le_of_ble_eq_true rfl) ?_
  show TrO G mX10_needLine d 1 6 0 0 (ms_tv σ) 0 [(0, .ref l0), (1, .int l1)] [] σ (ms_bt (f_X10_needIn σ l1 0 ((ms_i σ (ms_rf l0 1) 5) - 1)) (some none) (fun e1 => some (some e1)))
  refine tr_iload_n (i := 1) dX10_needLine_0 rfl ?_
  refine tr_iconst (v := 0) dX10_needLine_1 (by decide +kernel) ?_
  refine tr_aload_n (i := 0) dX10_needLine_2 rfl ?_
  refine tr_getR 10 h0 fl_X10_19 (by decide +kernel) dX10_needLine_3 ?_
  refine tr_getI 6 (rk_10_1 h0) fl_X10_139 (by decide +kernel) dX10_needLine_6 ?_
  refine tr_iconst (v := 1) dX10_needLine_9 (by decide +kernel) ?_
  refine tr_isub dX10_needLine_10 ?_
  refine tr_d_tv (ms_cS (rest := []) (al := [.int l1, .int 0, .int ((ms_i σ (ms_rf l0 1) 5) - 1)]) (sp_X10_needIn G hG (d - 1) (by omega) σ l1 0 ((ms_i σ (ms_rf l0 1) 5) - 1)) kl_X10_128 fs_X10_needIn dX10_needLine_11 (show _ = some 3 by decide +kernel) (by omega) (Nat.le_of_ble_eq_true rfl) (by decide) (by decide)) rfl (by decide) (by decide) ?_ (fun e0 r h => by cases h; rfl)
  exact tr_vret rfl rfl (by decide) (by decide) dX10_needLine_14
theorem dX10_greatestCrown_0 : decode cX10_greatestCrown 0 = .ok (.iconst 0, 1) := by decide +kernel
theorem dX10_greatestCrown_1 : decode cX10_greatestCrown 1 = .ok (.istore_n 1, 1) := by decide +kernel
theorem dX10_greatestCrown_2 : decode cX10_greatestCrown 2 = .ok (.iconst 0, 1) := by decide +kernel
theorem dX10_greatestCrown_3 : decode cX10_greatestCrown 3 = .ok (.istore_n 2, 1) := by decide +kernel
theorem dX10_greatestCrown_4 : decode cX10_greatestCrown 4 = .ok (.iload_n 2, 1) := by decide +kernel
theorem dX10_greatestCrown_5 : decode cX10_greatestCrown 5 = .ok (.aload_n 0, 1) := by decide +kernel
theorem dX10_greatestCrown_6 : decode cX10_greatestCrown 6 = .ok (.getfield 60, 3) := by decide +kernel
theorem dX10_greatestCrown_9 : decode cX10_greatestCrown 9 = .ok (.getfield 218, 3) := by decide +kernel
theorem dX10_greatestCrown_12 : decode cX10_greatestCrown 12 = .ok (.getfield 209, 3) := by decide +kernel
theorem dX10_greatestCrown_15 : decode cX10_greatestCrown 15 = .ok (.if_icmp .ge 33, 3) := by decide +kernel
theorem dX10_greatestCrown_18 : decode cX10_greatestCrown 18 = .ok (.aload_n 0, 1) := by decide +kernel
theorem dX10_greatestCrown_19 : decode cX10_greatestCrown 19 = .ok (.getfield 70, 3) := by decide +kernel
theorem dX10_greatestCrown_22 : decode cX10_greatestCrown 22 = .ok (.aload_n 0, 1) := by decide +kernel
theorem dX10_greatestCrown_23 : decode cX10_greatestCrown 23 = .ok (.getfield 60, 3) := by decide +kernel
theorem dX10_greatestCrown_26 : decode cX10_greatestCrown 26 = .ok (.iload_n 2, 1) := by decide +kernel
theorem dX10_greatestCrown_27 : decode cX10_greatestCrown 27 = .ok (.invokevirtual 248, 3) := by decide +kernel
theorem dX10_greatestCrown_30 : decode cX10_greatestCrown 30 = .ok (.iload_n 1, 1) := by decide +kernel
theorem dX10_greatestCrown_31 : decode cX10_greatestCrown 31 = .ok (.aload_n 0, 1) := by decide +kernel
theorem dX10_greatestCrown_32 : decode cX10_greatestCrown 32 = .ok (.getfield 70, 3) := by decide +kernel
theorem dX10_greatestCrown_35 : decode cX10_greatestCrown 35 = .ok (.getfield 264, 3) := by decide +kernel
theorem dX10_greatestCrown_38 : decode cX10_greatestCrown 38 = .ok (.invokestatic 387, 3) := by decide +kernel
theorem dX10_greatestCrown_41 : decode cX10_greatestCrown 41 = .ok (.istore_n 1, 1) := by decide +kernel
theorem dX10_greatestCrown_42 : decode cX10_greatestCrown 42 = .ok (.iinc 2 1, 3) := by decide +kernel
theorem dX10_greatestCrown_45 : decode cX10_greatestCrown 45 = .ok (.goto (-41), 3) := by decide +kernel
theorem dX10_greatestCrown_48 : decode cX10_greatestCrown 48 = .ok (.iload_n 1, 1) := by decide +kernel
theorem dX10_greatestCrown_49 : decode cX10_greatestCrown 49 = .ok (.ireturn, 1) := by decide +kernel
set_option maxRecDepth 100000 in
theorem t_X10_greatestCrown_4 (G : MG) (hG : (g_l G).stackTraces = false) (d : Nat) (hd : 4 ≤ d)    : ∀ (n : Nat) (σ : MsSt) (l0 : Nat) (l1 : Int32) (l2 : Int32) (h0 : ms_kd l0 = 11), TrO G mX10_greatestCrown d 0 0 0 0 ms_wi 4 [(0, .ref l0), (1, .int l1), (2, .int l2)] [] σ (f_X10_greatestCrown_4 n σ l0 l1 l2) := by
  intro n
  induction n with
  | zero => exact fun _ _ _ _ _ => tr_none
  | succ n ih =>
    intro σ l0 l1 l2 h0
    show TrO G mX10_greatestCrown d 0 0 0 0 ms_wi 4 [(0, .ref l0), (1, .int l1), (2, .int l2)] [] σ (if l2 < (ms_i σ (ms_rf (ms_rf l0 6) 4) 1) then (f_X0_lay σ (ms_rf l0 8) (ms_rf l0 6) l2).bind fun s1 => (f_X10_greatestCrown_4 n) s1 l0 (if l1 < (ms_i s1 (ms_rf l0 8) 10) then (ms_i s1 (ms_rf l0 8) 10) else l1) (l2 + 1) else some (l1, σ))
    refine tr_iload_n (i := 2) dX10_greatestCrown_4 rfl ?_
    refine tr_aload_n (i := 0) dX10_greatestCrown_5 rfl ?_
    refine tr_getR 10 h0 fl_X10_60 (by decide +kernel) dX10_greatestCrown_6 ?_
    refine tr_getR 1 (rk_10_6 h0) fl_X10_218 (by decide +kernel) dX10_greatestCrown_9 ?_
    refine tr_getI 5 (rk_1_4 (rk_10_6 h0)) fl_X10_209 (by decide +kernel) dX10_greatestCrown_12 ?_
    refine tr_icge (o := none) (tgt := 48) dX10_greatestCrown_15 (by decide) ?_ ?_
    · refine tr_iload_n (i := 1) dX10_greatestCrown_48 rfl ?_
      exact tr_iret rfl rfl (by decide) (by decide) dX10_greatestCrown_49
    · refine tr_aload_n (i := 0) dX10_greatestCrown_18 rfl ?_
      refine tr_getR 10 h0 fl_X10_70 (by decide +kernel) dX10_greatestCrown_19 ?_
      refine tr_aload_n (i := 0) dX10_greatestCrown_22 rfl ?_
      refine tr_getR 10 h0 fl_X10_60 (by decide +kernel) dX10_greatestCrown_23 ?_
      refine tr_iload_n (i := 2) dX10_greatestCrown_26 rfl ?_
      refine tr_c_wv (ms_cV (rest := []) (al := [.ref (ms_rf l0 6), .int l2]) 0 (sp_X0_lay G hG (d - 1) (by omega) σ (ms_rf l0 8) (ms_rf l0 6) l2 (rk_10_8 h0) (rk_10_6 h0)) (rk_10_8 h0) (by decide +kernel) kl_X10_248 fv_X0_lay dX10_greatestCrown_27 (show _ = some 2 by decide +kernel) (by omega) (Nat.le_of_ble_eq_true rfl) (by decide) (by decide)) (fun s1 => ?_)
      refine tr_iload_n (i := 1) dX10_greatestCrown_30 rfl ?_
      refine tr_aload_n (i := 0) dX10_greatestCrown_31 rfl ?_
      refine tr_getR 10 h0 fl_X10_70 (by decide +kernel) dX10_greatestCrown_32 ?_
      refine tr_getI 0 (rk_10_8 h0) fl_X10_264 (by decide +kernel) dX10_greatestCrown_35 ?_
      refine tr_mmax (List.mem_of_getElem? (i := 1204) (by decide +kernel)) (List.mem_of_getElem? (i := 234) (by decide +kernel)) (List.mem_of_getElem? (i := 144) (by decide +kernel)) (List.mem_of_getElem? (i := 235) (by decide +kernel)) (by omega) (Nat.le_of_ble_eq_true rfl) (by decide) (by decide) dX10_greatestCrown_38 ?_
      refine tr_istore_n (lv' := [(0, .ref l0), (1, .int (if l1 < (ms_i s1 (ms_rf l0 8) 10) then (ms_i s1 (ms_rf l0 8) 10) else l1)), (2, .int l2)]) [1, 0, 2] dX10_greatestCrown_41 (by decide) rfl ?_
      refine tr_iinc (k := 2) (v := (l2 + 1)) (lv' := [(0, .ref l0), (1, .int (if l1 < (ms_i s1 (ms_rf l0 8) 10) then (ms_i s1 (ms_rf l0 8) 10) else l1)), (2, .int (l2 + 1))]) [1, 2, 0] dX10_greatestCrown_42 rfl rfl (by decide) rfl ?_
      refine tr_goto (tgt := 4) dX10_greatestCrown_45 (by decide) ?_
      exact (fun s y0 y1 y2 g0 => ih s y0 y1 y2 g0) s1 l0 (if l1 < (ms_i s1 (ms_rf l0 8) 10) then (ms_i s1 (ms_rf l0 8) 10) else l1) (l2 + 1) h0
set_option maxRecDepth 100000 in
theorem sp_X10_greatestCrown (G : MG) (hG : (g_l G).stackTraces = false) (d : Nat) (hd : 4 ≤ d)   (σ : MsSt) (l0 : Nat) (h0 : ms_kd l0 = 11) : MsSpec G mX10_greatestCrown d 0 0 [.ref l0] σ ms_wi (f_X10_greatestCrown σ l0) := by
  refine ms_start (by decide +kernel) rfl rfl (Nat.le_of_ble_eq_true rfl) ?_
  show TrO G mX10_greatestCrown d 0 0 0 0 ms_wi 0 [(0, .ref l0)] [] σ (f_X10_greatestCrown_4 ms_fuel σ l0 0 0)
  refine tr_iconst (v := 0) dX10_greatestCrown_0 (by decide +kernel) ?_
  refine tr_istore_n (lv' := [(0, .ref l0), (1, .int 0)]) [1, 0] dX10_greatestCrown_1 (by decide) rfl ?_
  refine tr_iconst (v := 0) dX10_greatestCrown_2 (by decide +kernel) ?_
  refine tr_istore_n (lv' := [(0, .ref l0), (1, .int 0), (2, .int 0)]) [1, 2, 0] dX10_greatestCrown_3 (by decide) rfl ?_
  exact t_X10_greatestCrown_4 G hG d hd ms_fuel σ l0 0 0 h0
theorem dX10_leastFoot_0 : decode cX10_leastFoot 0 = .ok (.iconst 0, 1) := by decide +kernel
theorem dX10_leastFoot_1 : decode cX10_leastFoot 1 = .ok (.istore_n 1, 1) := by decide +kernel
theorem dX10_leastFoot_2 : decode cX10_leastFoot 2 = .ok (.iconst 0, 1) := by decide +kernel
theorem dX10_leastFoot_3 : decode cX10_leastFoot 3 = .ok (.istore_n 2, 1) := by decide +kernel
theorem dX10_leastFoot_4 : decode cX10_leastFoot 4 = .ok (.iload_n 2, 1) := by decide +kernel
theorem dX10_leastFoot_5 : decode cX10_leastFoot 5 = .ok (.aload_n 0, 1) := by decide +kernel
theorem dX10_leastFoot_6 : decode cX10_leastFoot 6 = .ok (.getfield 60, 3) := by decide +kernel
theorem dX10_leastFoot_9 : decode cX10_leastFoot 9 = .ok (.getfield 218, 3) := by decide +kernel
theorem dX10_leastFoot_12 : decode cX10_leastFoot 12 = .ok (.getfield 209, 3) := by decide +kernel
theorem dX10_leastFoot_15 : decode cX10_leastFoot 15 = .ok (.if_icmp .ge 33, 3) := by decide +kernel
theorem dX10_leastFoot_18 : decode cX10_leastFoot 18 = .ok (.aload_n 0, 1) := by decide +kernel
theorem dX10_leastFoot_19 : decode cX10_leastFoot 19 = .ok (.getfield 70, 3) := by decide +kernel
theorem dX10_leastFoot_22 : decode cX10_leastFoot 22 = .ok (.aload_n 0, 1) := by decide +kernel
theorem dX10_leastFoot_23 : decode cX10_leastFoot 23 = .ok (.getfield 60, 3) := by decide +kernel
theorem dX10_leastFoot_26 : decode cX10_leastFoot 26 = .ok (.iload_n 2, 1) := by decide +kernel
theorem dX10_leastFoot_27 : decode cX10_leastFoot 27 = .ok (.invokevirtual 248, 3) := by decide +kernel
theorem dX10_leastFoot_30 : decode cX10_leastFoot 30 = .ok (.iload_n 1, 1) := by decide +kernel
theorem dX10_leastFoot_31 : decode cX10_leastFoot 31 = .ok (.aload_n 0, 1) := by decide +kernel
theorem dX10_leastFoot_32 : decode cX10_leastFoot 32 = .ok (.getfield 70, 3) := by decide +kernel
theorem dX10_leastFoot_35 : decode cX10_leastFoot 35 = .ok (.getfield 267, 3) := by decide +kernel
theorem dX10_leastFoot_38 : decode cX10_leastFoot 38 = .ok (.invokestatic 392, 3) := by decide +kernel
theorem dX10_leastFoot_41 : decode cX10_leastFoot 41 = .ok (.istore_n 1, 1) := by decide +kernel
theorem dX10_leastFoot_42 : decode cX10_leastFoot 42 = .ok (.iinc 2 1, 3) := by decide +kernel
theorem dX10_leastFoot_45 : decode cX10_leastFoot 45 = .ok (.goto (-41), 3) := by decide +kernel
theorem dX10_leastFoot_48 : decode cX10_leastFoot 48 = .ok (.iload_n 1, 1) := by decide +kernel
theorem dX10_leastFoot_49 : decode cX10_leastFoot 49 = .ok (.ireturn, 1) := by decide +kernel
set_option maxRecDepth 100000 in
theorem t_X10_leastFoot_4 (G : MG) (hG : (g_l G).stackTraces = false) (d : Nat) (hd : 4 ≤ d)    : ∀ (n : Nat) (σ : MsSt) (l0 : Nat) (l1 : Int32) (l2 : Int32) (h0 : ms_kd l0 = 11), TrO G mX10_leastFoot d 0 0 0 0 ms_wi 4 [(0, .ref l0), (1, .int l1), (2, .int l2)] [] σ (f_X10_leastFoot_4 n σ l0 l1 l2) := by
  intro n
  induction n with
  | zero => exact fun _ _ _ _ _ => tr_none
  | succ n ih =>
    intro σ l0 l1 l2 h0
    show TrO G mX10_leastFoot d 0 0 0 0 ms_wi 4 [(0, .ref l0), (1, .int l1), (2, .int l2)] [] σ (if l2 < (ms_i σ (ms_rf (ms_rf l0 6) 4) 1) then (f_X0_lay σ (ms_rf l0 8) (ms_rf l0 6) l2).bind fun s1 => (f_X10_leastFoot_4 n) s1 l0 (if (ms_i s1 (ms_rf l0 8) 11) < l1 then (ms_i s1 (ms_rf l0 8) 11) else l1) (l2 + 1) else some (l1, σ))
    refine tr_iload_n (i := 2) dX10_leastFoot_4 rfl ?_
    refine tr_aload_n (i := 0) dX10_leastFoot_5 rfl ?_
    refine tr_getR 10 h0 fl_X10_60 (by decide +kernel) dX10_leastFoot_6 ?_
    refine tr_getR 1 (rk_10_6 h0) fl_X10_218 (by decide +kernel) dX10_leastFoot_9 ?_
    refine tr_getI 5 (rk_1_4 (rk_10_6 h0)) fl_X10_209 (by decide +kernel) dX10_leastFoot_12 ?_
    refine tr_icge (o := none) (tgt := 48) dX10_leastFoot_15 (by decide) ?_ ?_
    · refine tr_iload_n (i := 1) dX10_leastFoot_48 rfl ?_
      exact tr_iret rfl rfl (by decide) (by decide) dX10_leastFoot_49
    · refine tr_aload_n (i := 0) dX10_leastFoot_18 rfl ?_
      refine tr_getR 10 h0 fl_X10_70 (by decide +kernel) dX10_leastFoot_19 ?_
      refine tr_aload_n (i := 0) dX10_leastFoot_22 rfl ?_
      refine tr_getR 10 h0 fl_X10_60 (by decide +kernel) dX10_leastFoot_23 ?_
      refine tr_iload_n (i := 2) dX10_leastFoot_26 rfl ?_
      refine tr_c_wv (ms_cV (rest := []) (al := [.ref (ms_rf l0 6), .int l2]) 0 (sp_X0_lay G hG (d - 1) (by omega) σ (ms_rf l0 8) (ms_rf l0 6) l2 (rk_10_8 h0) (rk_10_6 h0)) (rk_10_8 h0) (by decide +kernel) kl_X10_248 fv_X0_lay dX10_leastFoot_27 (show _ = some 2 by decide +kernel) (by omega) (Nat.le_of_ble_eq_true rfl) (by decide) (by decide)) (fun s1 => ?_)
      refine tr_iload_n (i := 1) dX10_leastFoot_30 rfl ?_
      refine tr_aload_n (i := 0) dX10_leastFoot_31 rfl ?_
      refine tr_getR 10 h0 fl_X10_70 (by decide +kernel) dX10_leastFoot_32 ?_
      refine tr_getI 0 (rk_10_8 h0) fl_X10_267 (by decide +kernel) dX10_leastFoot_35 ?_
      refine tr_mmin (List.mem_of_getElem? (i := 1209) (by decide +kernel)) (List.mem_of_getElem? (i := 786) (by decide +kernel)) (List.mem_of_getElem? (i := 144) (by decide +kernel)) (List.mem_of_getElem? (i := 787) (by decide +kernel)) (by omega) (Nat.le_of_ble_eq_true rfl) (by decide) (by decide) dX10_leastFoot_38 ?_
      refine tr_istore_n (lv' := [(0, .ref l0), (1, .int (if (ms_i s1 (ms_rf l0 8) 11) < l1 then (ms_i s1 (ms_rf l0 8) 11) else l1)), (2, .int l2)]) [1, 0, 2] dX10_leastFoot_41 (by decide) rfl ?_
      refine tr_iinc (k := 2) (v := (l2 + 1)) (lv' := [(0, .ref l0), (1, .int (if (ms_i s1 (ms_rf l0 8) 11) < l1 then (ms_i s1 (ms_rf l0 8) 11) else l1)), (2, .int (l2 + 1))]) [1, 2, 0] dX10_leastFoot_42 rfl rfl (by decide) rfl ?_
      refine tr_goto (tgt := 4) dX10_leastFoot_45 (by decide) ?_
      exact (fun s y0 y1 y2 g0 => ih s y0 y1 y2 g0) s1 l0 (if (ms_i s1 (ms_rf l0 8) 11) < l1 then (ms_i s1 (ms_rf l0 8) 11) else l1) (l2 + 1) h0
set_option maxRecDepth 100000 in
theorem sp_X10_leastFoot (G : MG) (hG : (g_l G).stackTraces = false) (d : Nat) (hd : 4 ≤ d)   (σ : MsSt) (l0 : Nat) (h0 : ms_kd l0 = 11) : MsSpec G mX10_leastFoot d 0 0 [.ref l0] σ ms_wi (f_X10_leastFoot σ l0) := by
  refine ms_start (by decide +kernel) rfl rfl (Nat.le_of_ble_eq_true rfl) ?_
  show TrO G mX10_leastFoot d 0 0 0 0 ms_wi 0 [(0, .ref l0)] [] σ (f_X10_leastFoot_4 ms_fuel σ l0 0 0)
  refine tr_iconst (v := 0) dX10_leastFoot_0 (by decide +kernel) ?_
  refine tr_istore_n (lv' := [(0, .ref l0), (1, .int 0)]) [1, 0] dX10_leastFoot_1 (by decide) rfl ?_
  refine tr_iconst (v := 0) dX10_leastFoot_2 (by decide +kernel) ?_
  refine tr_istore_n (lv' := [(0, .ref l0), (1, .int 0), (2, .int 0)]) [1, 2, 0] dX10_leastFoot_3 (by decide) rfl ?_
  exact t_X10_leastFoot_4 G hG d hd ms_fuel σ l0 0 0 h0
theorem dX10_clashesWithNext_0 : decode cX10_clashesWithNext 0 = .ok (.aload_n 0, 1) := by decide +kernel
theorem dX10_clashesWithNext_1 : decode cX10_clashesWithNext 1 = .ok (.getfield 70, 3) := by decide +kernel
theorem dX10_clashesWithNext_4 : decode cX10_clashesWithNext 4 = .ok (.aload_n 0, 1) := by decide +kernel
theorem dX10_clashesWithNext_5 : decode cX10_clashesWithNext 5 = .ok (.getfield 60, 3) := by decide +kernel
theorem dX10_clashesWithNext_8 : decode cX10_clashesWithNext 8 = .ok (.iload_n 1, 1) := by decide +kernel
theorem dX10_clashesWithNext_9 : decode cX10_clashesWithNext 9 = .ok (.invokevirtual 248, 3) := by decide +kernel
theorem dX10_clashesWithNext_12 : decode cX10_clashesWithNext 12 = .ok (.aload_n 0, 1) := by decide +kernel
theorem dX10_clashesWithNext_13 : decode cX10_clashesWithNext 13 = .ok (.getfield 74, 3) := by decide +kernel
theorem dX10_clashesWithNext_16 : decode cX10_clashesWithNext 16 = .ok (.aload_n 0, 1) := by decide +kernel
theorem dX10_clashesWithNext_17 : decode cX10_clashesWithNext 17 = .ok (.getfield 60, 3) := by decide +kernel
theorem dX10_clashesWithNext_20 : decode cX10_clashesWithNext 20 = .ok (.iload_n 1, 1) := by decide +kernel
theorem dX10_clashesWithNext_21 : decode cX10_clashesWithNext 21 = .ok (.iconst 1, 1) := by decide +kernel
theorem dX10_clashesWithNext_22 : decode cX10_clashesWithNext 22 = .ok (.iadd, 1) := by decide +kernel
theorem dX10_clashesWithNext_23 : decode cX10_clashesWithNext 23 = .ok (.invokevirtual 248, 3) := by decide +kernel
theorem dX10_clashesWithNext_26 : decode cX10_clashesWithNext 26 = .ok (.aload_n 0, 1) := by decide +kernel
theorem dX10_clashesWithNext_27 : decode cX10_clashesWithNext 27 = .ok (.getfield 70, 3) := by decide +kernel
theorem dX10_clashesWithNext_30 : decode cX10_clashesWithNext 30 = .ok (.aload_n 0, 1) := by decide +kernel
theorem dX10_clashesWithNext_31 : decode cX10_clashesWithNext 31 = .ok (.getfield 74, 3) := by decide +kernel
theorem dX10_clashesWithNext_34 : decode cX10_clashesWithNext 34 = .ok (.aload_n 0, 1) := by decide +kernel
theorem dX10_clashesWithNext_35 : decode cX10_clashesWithNext 35 = .ok (.getfield 19, 3) := by decide +kernel
theorem dX10_clashesWithNext_38 : decode cX10_clashesWithNext 38 = .ok (.aload_n 0, 1) := by decide +kernel
theorem dX10_clashesWithNext_39 : decode cX10_clashesWithNext 39 = .ok (.getfield 60, 3) := by decide +kernel
theorem dX10_clashesWithNext_42 : decode cX10_clashesWithNext 42 = .ok (.getfield 252, 3) := by decide +kernel
theorem dX10_clashesWithNext_45 : decode cX10_clashesWithNext 45 = .ok (.iload_n 1, 1) := by decide +kernel
theorem dX10_clashesWithNext_46 : decode cX10_clashesWithNext 46 = .ok (.invokevirtual 199, 3) := by decide +kernel
theorem dX10_clashesWithNext_49 : decode cX10_clashesWithNext 49 = .ok (.invokevirtual 395, 3) := by decide +kernel
theorem dX10_clashesWithNext_52 : decode cX10_clashesWithNext 52 = .ok (.invokevirtual 398, 3) := by decide +kernel
theorem dX10_clashesWithNext_55 : decode cX10_clashesWithNext 55 = .ok (.ireturn, 1) := by decide +kernel
set_option maxRecDepth 100000 in
theorem sp_X10_clashesWithNext (G : MG) (hG : (g_l G).stackTraces = false) (d : Nat) (hd : 4 ≤ d)   (σ : MsSt) (l0 : Nat) (l1 : Int32) (h0 : ms_kd l0 = 11) : MsSpec G mX10_clashesWithNext d 0 0 [.ref l0, .int l1] σ ms_wi (f_X10_clashesWithNext σ l0 l1) := by
  refine ms_start (by decide +kernel) rfl rfl (Nat.le_of_ble_eq_true rfl) ?_
  show TrO G mX10_clashesWithNext d 0 0 0 0 ms_wi 0 [(0, .ref l0), (1, .int l1)] [] σ ((f_X0_lay σ (ms_rf l0 8) (ms_rf l0 6) l1).bind fun s1 => (f_X0_lay s1 (ms_rf l0 9) (ms_rf l0 6) (l1 + 1)).bind fun s2 => (f_X5_get s2 (ms_rf (ms_rf l0 6) 5) l1).bind fun v3 => (f_X6_widthOf s2 (ms_rf l0 1) v3).bind fun v4 => (f_X0_overlaps s2 (ms_rf l0 8) (ms_rf l0 9) v4).bind fun v5 => (ms_bz v5).bind fun v6 => some (v6, s2))
  refine tr_aload_n (i := 0) dX10_clashesWithNext_0 rfl ?_
  refine tr_getR 10 h0 fl_X10_70 (by decide +kernel) dX10_clashesWithNext_1 ?_
  refine tr_aload_n (i := 0) dX10_clashesWithNext_4 rfl ?_
  refine tr_getR 10 h0 fl_X10_60 (by decide +kernel) dX10_clashesWithNext_5 ?_
  refine tr_iload_n (i := 1) dX10_clashesWithNext_8 rfl ?_
  refine tr_c_wv (ms_cV (rest := []) (al := [.ref (ms_rf l0 6), .int l1]) 0 (sp_X0_lay G hG (d - 1) (by omega) σ (ms_rf l0 8) (ms_rf l0 6) l1 (rk_10_8 h0) (rk_10_6 h0)) (rk_10_8 h0) (by decide +kernel) kl_X10_248 fv_X0_lay dX10_clashesWithNext_9 (show _ = some 2 by decide +kernel) (by omega) (Nat.le_of_ble_eq_true rfl) (by decide) (by decide)) (fun s1 => ?_)
  refine tr_aload_n (i := 0) dX10_clashesWithNext_12 rfl ?_
  refine tr_getR 10 h0 fl_X10_74 (by decide +kernel) dX10_clashesWithNext_13 ?_
  refine tr_aload_n (i := 0) dX10_clashesWithNext_16 rfl ?_
  refine tr_getR 10 h0 fl_X10_60 (by decide +kernel) dX10_clashesWithNext_17 ?_
  refine tr_iload_n (i := 1) dX10_clashesWithNext_20 rfl ?_
  refine tr_iconst (v := 1) dX10_clashesWithNext_21 (by decide +kernel) ?_
  refine tr_iadd dX10_clashesWithNext_22 ?_
  refine tr_c_wv (ms_cV (rest := []) (al := [.ref (ms_rf l0 6), .int (l1 + 1)]) 0 (sp_X0_lay G hG (d - 1) (by omega) s1 (ms_rf l0 9) (ms_rf l0 6) (l1 + 1) (rk_10_9 h0) (rk_10_6 h0)) (rk_10_9 h0) (by decide +kernel) kl_X10_248 fv_X0_lay dX10_clashesWithNext_23 (show _ = some 2 by decide +kernel) (by omega) (Nat.le_of_ble_eq_true rfl) (by decide) (by decide)) (fun s2 => ?_)
  refine tr_aload_n (i := 0) dX10_clashesWithNext_26 rfl ?_
  refine tr_getR 10 h0 fl_X10_70 (by decide +kernel) dX10_clashesWithNext_27 ?_
  refine tr_aload_n (i := 0) dX10_clashesWithNext_30 rfl ?_
  refine tr_getR 10 h0 fl_X10_74 (by decide +kernel) dX10_clashesWithNext_31 ?_
  refine tr_aload_n (i := 0) dX10_clashesWithNext_34 rfl ?_
  refine tr_getR 10 h0 fl_X10_19 (by decide +kernel) dX10_clashesWithNext_35 ?_
  refine tr_aload_n (i := 0) dX10_clashesWithNext_38 rfl ?_
  refine tr_getR 10 h0 fl_X10_60 (by decide +kernel) dX10_clashesWithNext_39 ?_
  refine tr_getR 1 (rk_10_6 h0) fl_X10_252 (by decide +kernel) dX10_clashesWithNext_42 ?_
  refine tr_iload_n (i := 1) dX10_clashesWithNext_45 rfl ?_
  refine tr_c_i (ms_cV (rest := [.ref (ms_rf l0 1), .ref (ms_rf l0 9), .ref (ms_rf l0 8)]) (al := [.int l1]) 5 (sp_X5_get G hG (d - 1) (by omega) s2 (ms_rf (ms_rf l0 6) 5) l1 (rk_1_5 (rk_10_6 h0))) (rk_1_5 (rk_10_6 h0)) (by decide +kernel) kl_X10_199 fv_X5_get dX10_clashesWithNext_46 (show _ = some 1 by decide +kernel) (by omega) (Nat.le_of_ble_eq_true rfl) (by decide) (by decide)) (fun v3 => ?_)
  refine tr_c_i (ms_cV (rest := [.ref (ms_rf l0 9), .ref (ms_rf l0 8)]) (al := [.int v3]) 6 (sp_X6_widthOf G hG (d - 1) (by omega) s2 (ms_rf l0 1) v3 (rk_10_1 h0)) (rk_10_1 h0) (by decide +kernel) kl_X10_395 fv_X6_widthOf dX10_clashesWithNext_49 (show _ = some 1 by decide +kernel) (by omega) (Nat.le_of_ble_eq_true rfl) (by decide) (by decide)) (fun v4 => ?_)
  refine tr_c_i (ms_cV (rest := []) (al := [.ref (ms_rf l0 9), .int v4]) 0 (sp_X0_overlaps G hG (d - 1) (by omega) s2 (ms_rf l0 8) (ms_rf l0 9) v4 (rk_10_8 h0) (rk_10_9 h0)) (rk_10_8 h0) (by decide +kernel) kl_X10_398 fv_X0_overlaps dX10_clashesWithNext_52 (show _ = some 2 by decide +kernel) (by omega) (Nat.le_of_ble_eq_true rfl) (by decide) (by decide)) (fun v5 => ?_)
  exact tr_bret rfl rfl rfl (by decide) (by decide) dX10_clashesWithNext_55
theorem dX10_countClashes_0 : decode cX10_countClashes 0 = .ok (.iconst 0, 1) := by decide +kernel
theorem dX10_countClashes_1 : decode cX10_countClashes 1 = .ok (.istore_n 1, 1) := by decide +kernel
theorem dX10_countClashes_2 : decode cX10_countClashes 2 = .ok (.iconst 0, 1) := by decide +kernel
theorem dX10_countClashes_3 : decode cX10_countClashes 3 = .ok (.istore_n 2, 1) := by decide +kernel
theorem dX10_countClashes_4 : decode cX10_countClashes 4 = .ok (.iload_n 2, 1) := by decide +kernel
theorem dX10_countClashes_5 : decode cX10_countClashes 5 = .ok (.iconst 1, 1) := by decide +kernel
theorem dX10_countClashes_6 : decode cX10_countClashes 6 = .ok (.iadd, 1) := by decide +kernel
theorem dX10_countClashes_7 : decode cX10_countClashes 7 = .ok (.aload_n 0, 1) := by decide +kernel
theorem dX10_countClashes_8 : decode cX10_countClashes 8 = .ok (.getfield 60, 3) := by decide +kernel
theorem dX10_countClashes_11 : decode cX10_countClashes 11 = .ok (.getfield 218, 3) := by decide +kernel
theorem dX10_countClashes_14 : decode cX10_countClashes 14 = .ok (.getfield 209, 3) := by decide +kernel
theorem dX10_countClashes_17 : decode cX10_countClashes 17 = .ok (.if_icmp .ge 20, 3) := by decide +kernel
theorem dX10_countClashes_20 : decode cX10_countClashes 20 = .ok (.aload_n 0, 1) := by decide +kernel
theorem dX10_countClashes_21 : decode cX10_countClashes 21 = .ok (.iload_n 2, 1) := by decide +kernel
theorem dX10_countClashes_22 : decode cX10_countClashes 22 = .ok (.invokevirtual 294, 3) := by decide +kernel
theorem dX10_countClashes_25 : decode cX10_countClashes 25 = .ok (.ifCond .eq 6, 3) := by decide +kernel
theorem dX10_countClashes_28 : decode cX10_countClashes 28 = .ok (.iinc 1 1, 3) := by decide +kernel
theorem dX10_countClashes_31 : decode cX10_countClashes 31 = .ok (.iinc 2 1, 3) := by decide +kernel
theorem dX10_countClashes_34 : decode cX10_countClashes 34 = .ok (.goto (-30), 3) := by decide +kernel
theorem dX10_countClashes_37 : decode cX10_countClashes 37 = .ok (.iload_n 1, 1) := by decide +kernel
theorem dX10_countClashes_38 : decode cX10_countClashes 38 = .ok (.ireturn, 1) := by decide +kernel
set_option maxRecDepth 100000 in
theorem t_X10_countClashes_4 (G : MG) (hG : (g_l G).stackTraces = false) (d : Nat) (hd : 5 ≤ d)    : ∀ (n : Nat) (σ : MsSt) (l0 : Nat) (l1 : Int32) (l2 : Int32) (h0 : ms_kd l0 = 11), TrO G mX10_countClashes d 0 0 0 0 ms_wi 4 [(0, .ref l0), (1, .int l1), (2, .int l2)] [] σ (f_X10_countClashes_4 n σ l0 l1 l2) := by
  intro n
  induction n with
  | zero => exact fun _ _ _ _ _ => tr_none
  | succ n ih =>
    intro σ l0 l1 l2 h0
    show TrO G mX10_countClashes d 0 0 0 0 ms_wi 4 [(0, .ref l0), (1, .int l1), (2, .int l2)] [] σ (if (l2 + 1) < (ms_i σ (ms_rf (ms_rf l0 6) 4) 1) then ms_b2 (f_X10_clashesWithNext σ l0 l2) fun v1 s2 => if v1 = 0 then (f_X10_countClashes_4 n) s2 l0 l1 (l2 + 1) else (f_X10_countClashes_4 n) s2 l0 (l1 + 1) (l2 + 1) else some (l1, σ))
    refine tr_iload_n (i := 2) dX10_countClashes_4 rfl ?_
    refine tr_iconst (v := 1) dX10_countClashes_5 (by decide +kernel) ?_
    refine tr_iadd dX10_countClashes_6 ?_
    refine tr_aload_n (i := 0) dX10_countClashes_7 rfl ?_
    refine tr_getR 10 h0 fl_X10_60 (by decide +kernel) dX10_countClashes_8 ?_
    refine tr_getR 1 (rk_10_6 h0) fl_X10_218 (by decide +kernel) dX10_countClashes_11 ?_
    refine tr_getI 5 (rk_1_4 (rk_10_6 h0)) fl_X10_209 (by decide +kernel) dX10_countClashes_14 ?_
    refine tr_icge (o := none) (tgt := 37) dX10_countClashes_17 (by decide) ?_ ?_
    · refine tr_iload_n (i := 1) dX10_countClashes_37 rfl ?_
      exact tr_iret rfl rfl (by decide) (by decide) dX10_countClashes_38
    · refine tr_aload_n (i := 0) dX10_countClashes_20 rfl ?_
      refine tr_iload_n (i := 2) dX10_countClashes_21 rfl ?_
      refine tr_d_wi (ms_cV (rest := []) (al := [.int l2]) 10 (sp_X10_clashesWithNext G hG (d - 1) (by omega) σ l0 l2 h0) h0 (by decide +kernel) kl_X10_294 fv_X10_clashesWithNext dX10_countClashes_22 (show _ = some 1 by decide +kernel) (by omega) (Nat.le_of_ble_eq_true rfl) (by decide) (by decide)) (fun v1 s2 => ?_)
      refine tr_ifeq (o := none) (tgt := 31) dX10_countClashes_25 (by decide) ?_ ?_
      · refine tr_iinc (k := 2) (v := (l2 + 1)) (lv' := [(0, .ref l0), (1, .int l1), (2, .int (l2 + 1))]) [1, 2, 0] dX10_countClashes_31 rfl rfl (by decide) rfl ?_
        refine tr_goto (tgt := 4) dX10_countClashes_34 (by decide) ?_
        exact (fun s y0 y1 y2 g0 => ih s y0 y1 y2 g0) s2 l0 l1 (l2 + 1) h0
      · refine tr_iinc (k := 1) (v := (l1 + 1)) (lv' := [(0, .ref l0), (1, .int (l1 + 1)), (2, .int l2)]) [1, 0, 2] dX10_countClashes_28 rfl rfl (by decide) rfl ?_
        refine tr_iinc (k := 2) (v := (l2 + 1)) (lv' := [(0, .ref l0), (1, .int (l1 + 1)), (2, .int (l2 + 1))]) [1, 2, 0] dX10_countClashes_31 rfl rfl (by decide) rfl ?_
        refine tr_goto (tgt := 4) dX10_countClashes_34 (by decide) ?_
        exact (fun s y0 y1 y2 g0 => ih s y0 y1 y2 g0) s2 l0 (l1 + 1) (l2 + 1) h0
set_option maxRecDepth 100000 in
theorem sp_X10_countClashes (G : MG) (hG : (g_l G).stackTraces = false) (d : Nat) (hd : 5 ≤ d)   (σ : MsSt) (l0 : Nat) (h0 : ms_kd l0 = 11) : MsSpec G mX10_countClashes d 0 0 [.ref l0] σ ms_wi (f_X10_countClashes σ l0) := by
  refine ms_start (by decide +kernel) rfl rfl (Nat.le_of_ble_eq_true rfl) ?_
  show TrO G mX10_countClashes d 0 0 0 0 ms_wi 0 [(0, .ref l0)] [] σ (f_X10_countClashes_4 ms_fuel σ l0 0 0)
  refine tr_iconst (v := 0) dX10_countClashes_0 (by decide +kernel) ?_
  refine tr_istore_n (lv' := [(0, .ref l0), (1, .int 0)]) [1, 0] dX10_countClashes_1 (by decide) rfl ?_
  refine tr_iconst (v := 0) dX10_countClashes_2 (by decide +kernel) ?_
  refine tr_istore_n (lv' := [(0, .ref l0), (1, .int 0), (2, .int 0)]) [1, 2, 0] dX10_countClashes_3 (by decide) rfl ?_
  exact t_X10_countClashes_4 G hG d hd ms_fuel σ l0 0 0 h0
theorem dX10_line_0 : decode cX10_line 0 = .ok (.aload_n 0, 1) := by decide +kernel
theorem dX10_line_1 : decode cX10_line 1 = .ok (.iload_n 1, 1) := by decide +kernel
theorem dX10_line_2 : decode cX10_line 2 = .ok (.invokevirtual 202, 3) := by decide +kernel
theorem dX10_line_5 : decode cX10_line 5 = .ok (.iload_n 2, 1) := by decide +kernel
theorem dX10_line_6 : decode cX10_line 6 = .ok (.iconst 0, 1) := by decide +kernel
theorem dX10_line_7 : decode cX10_line 7 = .ok (.bipush 8, 2) := by decide +kernel
theorem dX10_line_9 : decode cX10_line 9 = .ok (.invokestatic 128, 3) := by decide +kernel
theorem dX10_line_12 : decode cX10_line 12 = .ok (.aload_n 0, 1) := by decide +kernel
theorem dX10_line_13 : decode cX10_line 13 = .ok (.getfield 19, 3) := by decide +kernel
theorem dX10_line_16 : decode cX10_line 16 = .ok (.iload_n 1, 1) := by decide +kernel
theorem dX10_line_17 : decode cX10_line 17 = .ok (.invokevirtual 205, 3) := by decide +kernel
theorem dX10_line_20 : decode cX10_line 20 = .ok (.astore_n 3, 1) := by decide +kernel
theorem dX10_line_21 : decode cX10_line 21 = .ok (.aload_n 0, 1) := by decide +kernel
theorem dX10_line_22 : decode cX10_line 22 = .ok (.getfield 60, 3) := by decide +kernel
theorem dX10_line_25 : decode cX10_line 25 = .ok (.aload_n 3, 1) := by decide +kernel
theorem dX10_line_26 : decode cX10_line 26 = .ok (.iconst (-1), 1) := by decide +kernel
theorem dX10_line_27 : decode cX10_line 27 = .ok (.invokevirtual 192, 3) := by decide +kernel
theorem dX10_line_30 : decode cX10_line 30 = .ok (.iload_n 2, 1) := by decide +kernel
theorem dX10_line_31 : decode cX10_line 31 = .ok (.tableswitch 121 0 7 #[45, 50, 61, 72, 82, 93, 111, 116], 45) := by decide +kernel
theorem dX10_line_76 : decode cX10_line 76 = .ok (.aload_n 3, 1) := by decide +kernel
theorem dX10_line_77 : decode cX10_line 77 = .ok (.getfield 209, 3) := by decide +kernel
theorem dX10_line_80 : decode cX10_line 80 = .ok (.ireturn, 1) := by decide +kernel
theorem dX10_line_81 : decode cX10_line 81 = .ok (.aload_n 0, 1) := by decide +kernel
theorem dX10_line_82 : decode cX10_line 82 = .ok (.getfield 60, 3) := by decide +kernel
theorem dX10_line_85 : decode cX10_line 85 = .ok (.getfield 212, 3) := by decide +kernel
theorem dX10_line_88 : decode cX10_line 88 = .ok (.getfield 209, 3) := by decide +kernel
theorem dX10_line_91 : decode cX10_line 91 = .ok (.ireturn, 1) := by decide +kernel
theorem dX10_line_92 : decode cX10_line 92 = .ok (.aload_n 0, 1) := by decide +kernel
theorem dX10_line_93 : decode cX10_line 93 = .ok (.getfield 60, 3) := by decide +kernel
theorem dX10_line_96 : decode cX10_line 96 = .ok (.getfield 196, 3) := by decide +kernel
theorem dX10_line_99 : decode cX10_line 99 = .ok (.getfield 209, 3) := by decide +kernel
theorem dX10_line_102 : decode cX10_line 102 = .ok (.ireturn, 1) := by decide +kernel
theorem dX10_line_103 : decode cX10_line 103 = .ok (.aload_n 0, 1) := by decide +kernel
theorem dX10_line_104 : decode cX10_line 104 = .ok (.getfield 60, 3) := by decide +kernel
theorem dX10_line_107 : decode cX10_line 107 = .ok (.iconst (-1), 1) := by decide +kernel
theorem dX10_line_108 : decode cX10_line 108 = .ok (.iconst 0, 1) := by decide +kernel
theorem dX10_line_109 : decode cX10_line 109 = .ok (.invokevirtual 215, 3) := by decide +kernel
theorem dX10_line_112 : decode cX10_line 112 = .ok (.ireturn, 1) := by decide +kernel
theorem dX10_line_113 : decode cX10_line 113 = .ok (.aload_n 0, 1) := by decide +kernel
theorem dX10_line_114 : decode cX10_line 114 = .ok (.getfield 60, 3) := by decide +kernel
theorem dX10_line_117 : decode cX10_line 117 = .ok (.getfield 218, 3) := by decide +kernel
theorem dX10_line_120 : decode cX10_line 120 = .ok (.getfield 209, 3) := by decide +kernel
theorem dX10_line_123 : decode cX10_line 123 = .ok (.ireturn, 1) := by decide +kernel
theorem dX10_line_124 : decode cX10_line 124 = .ok (.aload_n 0, 1) := by decide +kernel
theorem dX10_line_125 : decode cX10_line 125 = .ok (.getfield 60, 3) := by decide +kernel
theorem dX10_line_128 : decode cX10_line 128 = .ok (.aload_n 0, 1) := by decide +kernel
theorem dX10_line_129 : decode cX10_line 129 = .ok (.getfield 60, 3) := by decide +kernel
theorem dX10_line_132 : decode cX10_line 132 = .ok (.getfield 218, 3) := by decide +kernel
theorem dX10_line_135 : decode cX10_line 135 = .ok (.getfield 209, 3) := by decide +kernel
theorem dX10_line_138 : decode cX10_line 138 = .ok (.invokevirtual 221, 3) := by decide +kernel
theorem dX10_line_141 : decode cX10_line 141 = .ok (.ireturn, 1) := by decide +kernel
theorem dX10_line_142 : decode cX10_line 142 = .ok (.aload_n 0, 1) := by decide +kernel
theorem dX10_line_143 : decode cX10_line 143 = .ok (.invokevirtual 224, 3) := by decide +kernel
theorem dX10_line_146 : decode cX10_line 146 = .ok (.ireturn, 1) := by decide +kernel
theorem dX10_line_147 : decode cX10_line 147 = .ok (.aload_n 0, 1) := by decide +kernel
theorem dX10_line_148 : decode cX10_line 148 = .ok (.invokevirtual 227, 3) := by decide +kernel
theorem dX10_line_151 : decode cX10_line 151 = .ok (.ireturn, 1) := by decide +kernel
theorem dX10_line_152 : decode cX10_line 152 = .ok (.aload_n 0, 1) := by decide +kernel
theorem dX10_line_153 : decode cX10_line 153 = .ok (.invokevirtual 230, 3) := by decide +kernel
theorem dX10_line_156 : decode cX10_line 156 = .ok (.ireturn, 1) := by decide +kernel
set_option maxRecDepth 100000 in
theorem sp_X10_line (G : MG) (hG : (g_l G).stackTraces = false) (d : Nat) (hd : 8 ≤ d)   (σ : MsSt) (l0 : Nat) (l1 : Int32) (l2 : Int32) (h0 : ms_kd l0 = 11) : MsSpec G mX10_line d 2 12 [.ref l0, .int l1, .int l2] σ ms_ui (f_X10_line σ l0 l1 l2) := by
  refine ms_start (by decide +kernel) rfl rfl (Nat.le_of_ble_eq_true rfl) ?_
  show TrO G mX10_line d 2 12 0 0 ms_ui 0 [(0, .ref l0), (1, .int l1), (2, .int l2)] [] σ (ms_bt (f_X10_needLine σ l0 l1) (ms_bt (f_X10_needIn σ l2 0 8) ((f_X6_lineAt σ (ms_rf l0 1) l1).bind fun v3 => (f_X1_derive σ (ms_rf l0 6) v3 (-1)).bind fun s4 => if l2 = 0 then some (.inl (ms_i s4 v3 1), s4) else if l2 = 1 then some (.inl (ms_i s4 (ms_rf (ms_rf l0 6) 2) 1), s4) else if l2 = 2 then some (.inl (ms_i s4 (ms_rf (ms_rf l0 6) 3) 1), s4) else if l2 = 3 then (f_X1_countSwaps s4 (ms_rf l0 6) (-1) 0).bind fun v7 => some (.inl v7, s4) else if l2 = 4 then some (.inl (ms_i s4 (ms_rf (ms_rf l0 6) 4) 1), s4) else if l2 = 5 then (f_X1_penOf s4 (ms_rf l0 6) (ms_i s4 (ms_rf (ms_rf l0 6) 4) 1)).bind fun v8 => some (.inl v8, s4) else if l2 = 6 then ms_b2 (f_X10_greatestCrown s4 l0) fun v9 s10 => some (.inl v9, s10) else if l2 = 7 then ms_b2 (f_X10_leastFoot s4 l0) fun v11 s12 => some (.inl v11, s12) else ms_b2 (f_X10_countClashes s4 l0) fun v5 s6 => some (.inl v5, s6)) (fun e2 => some (.inr e2, σ))) (fun e1 => some (.inr e1, σ)))
  refine tr_aload_n (i := 0) dX10_line_0 rfl ?_
  refine tr_iload_n (i := 1) dX10_line_1 rfl ?_
  refine tr_d_tv (ms_cV (rest := []) (al := [.int l1]) 10 (sp_X10_needLine G hG (d - 1) (by omega) σ l0 l1 h0) h0 (by decide +kernel) kl_X10_202 fv_X10_needLine dX10_line_2 (show _ = some 1 by decide +kernel) (by omega) (Nat.le_of_ble_eq_true rfl) (by decide) (by decide)) rfl (by decide) (by decide) ?_ (fun e0 r h => by cases h; rfl)
  refine tr_iload_n (i := 2) dX10_line_5 rfl ?_
  refine tr_iconst (v := 0) dX10_line_6 (by decide +kernel) ?_
  refine tr_bipush (v := 8) dX10_line_7 (by decide +kernel) ?_
  refine tr_d_tv (ms_cS (rest := []) (al := [.int l2, .int 0, .int 8]) (sp_X10_needIn G hG (d - 1) (by omega) σ l2 0 8) kl_X10_128 fs_X10_needIn dX10_line_9 (show _ = some 3 by decide +kernel) (by omega) (Nat.le_of_ble_eq_true rfl) (by decide) (by decide)) rfl (by decide) (by decide) ?_ (fun e0 r h => by cases h; rfl)
  refine tr_aload_n (i := 0) dX10_line_12 rfl ?_
  refine tr_getR 10 h0 fl_X10_19 (by decide +kernel) dX10_line_13 ?_
  refine tr_iload_n (i := 1) dX10_line_16 rfl ?_
  refine tr_c_a (ms_cV (rest := []) (al := [.int l1]) 6 (sp_X6_lineAt G hG (d - 1) (by omega) σ (ms_rf l0 1) l1 (rk_10_1 h0)) (rk_10_1 h0) (by decide +kernel) kl_X10_205 fv_X6_lineAt dX10_line_17 (show _ = some 1 by decide +kernel) (by omega) (Nat.le_of_ble_eq_true rfl) (by decide) (by decide)) (fun v3 e_v3 => ?_)
  refine tr_astore_n (lv' := [(0, .ref l0), (2, .int l2), (3, .ref v3)]) [1, 3, 0] dX10_line_20 (by decide) rfl ?_
  refine tr_aload_n (i := 0) dX10_line_21 rfl ?_
  refine tr_getR 10 h0 fl_X10_60 (by decide +kernel) dX10_line_22 ?_
  refine tr_aload_n (i := 2) dX10_line_25 rfl ?_
  refine tr_iconst (v := (-1)) dX10_line_26 (by decide +kernel) ?_
  refine tr_c_wv (ms_cV (rest := []) (al := [.ref v3, .int (-1)]) 1 (sp_X1_derive G hG (d - 1) (by omega) σ (ms_rf l0 6) v3 (-1) (rk_10_6 h0) (ra_X6_lineAt (rk_10_1 h0) e_v3)) (rk_10_6 h0) (by decide +kernel) kl_X10_192 fv_X1_derive dX10_line_27 (show _ = some 2 by decide +kernel) (by omega) (Nat.le_of_ble_eq_true rfl) (by decide) (by decide)) (fun s4 => ?_)
  refine tr_iload_n (i := 1) dX10_line_30 rfl ?_
  refine tr_tsIn (tgt := 76) (off := 45) 0 dX10_line_31 (by decide +kernel) (by decide +kernel) (by decide +kernel) (by decide) ?_ (fun n0 => ?_)
  · refine tr_aload_n (i := 2) dX10_line_76 rfl ?_
    refine tr_getI 5 (ra_X6_lineAt (rk_10_1 h0) e_v3) fl_X10_209 (by decide +kernel) dX10_line_77 ?_
    exact tr_iret rfl rfl (by decide) (by decide) dX10_line_80
  refine tr_tsIn (tgt := 81) (off := 50) 1 dX10_line_31 (by decide +kernel) (by decide +kernel) (by decide +kernel) (by decide) ?_ (fun n1 => ?_)
  · refine tr_aload_n (i := 0) dX10_line_81 rfl ?_
    refine tr_getR 10 h0 fl_X10_60 (by decide +kernel) dX10_line_82 ?_
    refine tr_getR 1 (rk_10_6 h0) fl_X10_212 (by decide +kernel) dX10_line_85 ?_
    refine tr_getI 5 (rk_1_2 (rk_10_6 h0)) fl_X10_209 (by decide +kernel) dX10_line_88 ?_
    exact tr_iret rfl rfl (by decide) (by decide) dX10_line_91
  refine tr_tsIn (tgt := 92) (off := 61) 2 dX10_line_31 (by decide +kernel) (by decide +kernel) (by decide +kernel) (by decide) ?_ (fun n2 => ?_)
  · refine tr_aload_n (i := 0) dX10_line_92 rfl ?_
    refine tr_getR 10 h0 fl_X10_60 (by decide +kernel) dX10_line_93 ?_
    refine tr_getR 1 (rk_10_6 h0) fl_X10_196 (by decide +kernel) dX10_line_96 ?_
    refine tr_getI 5 (rk_1_3 (rk_10_6 h0)) fl_X10_209 (by decide +kernel) dX10_line_99 ?_
    exact tr_iret rfl rfl (by decide) (by decide) dX10_line_102
  refine tr_tsIn (tgt := 103) (off := 72) 3 dX10_line_31 (by decide +kernel) (by decide +kernel) (by decide +kernel) (by decide) ?_ (fun n3 => ?_)
  · refine tr_aload_n (i := 0) dX10_line_103 rfl ?_
    refine tr_getR 10 h0 fl_X10_60 (by decide +kernel) dX10_line_104 ?_
    refine tr_iconst (v := (-1)) dX10_line_107 (by decide +kernel) ?_
    refine tr_iconst (v := 0) dX10_line_108 (by decide +kernel) ?_
    refine tr_c_i (ms_cV (rest := []) (al := [.int (-1), .int 0]) 1 (sp_X1_countSwaps G hG (d - 1) (by omega) s4 (ms_rf l0 6) (-1) 0 (rk_10_6 h0)) (rk_10_6 h0) (by decide +kernel) kl_X10_215 fv_X1_countSwaps dX10_line_109 (show _ = some 2 by decide +kernel) (by omega) (Nat.le_of_ble_eq_true rfl) (by decide) (by decide)) (fun v7 => ?_)
    exact tr_iret rfl rfl (by decide) (by decide) dX10_line_112
  refine tr_tsIn (tgt := 113) (off := 82) 4 dX10_line_31 (by decide +kernel) (by decide +kernel) (by decide +kernel) (by decide) ?_ (fun n4 => ?_)
  · refine tr_aload_n (i := 0) dX10_line_113 rfl ?_
    refine tr_getR 10 h0 fl_X10_60 (by decide +kernel) dX10_line_114 ?_
    refine tr_getR 1 (rk_10_6 h0) fl_X10_218 (by decide +kernel) dX10_line_117 ?_
    refine tr_getI 5 (rk_1_4 (rk_10_6 h0)) fl_X10_209 (by decide +kernel) dX10_line_120 ?_
    exact tr_iret rfl rfl (by decide) (by decide) dX10_line_123
  refine tr_tsIn (tgt := 124) (off := 93) 5 dX10_line_31 (by decide +kernel) (by decide +kernel) (by decide +kernel) (by decide) ?_ (fun n5 => ?_)
  · refine tr_aload_n (i := 0) dX10_line_124 rfl ?_
    refine tr_getR 10 h0 fl_X10_60 (by decide +kernel) dX10_line_125 ?_
    refine tr_aload_n (i := 0) dX10_line_128 rfl ?_
    refine tr_getR 10 h0 fl_X10_60 (by decide +kernel) dX10_line_129 ?_
    refine tr_getR 1 (rk_10_6 h0) fl_X10_218 (by decide +kernel) dX10_line_132 ?_
    refine tr_getI 5 (rk_1_4 (rk_10_6 h0)) fl_X10_209 (by decide +kernel) dX10_line_135 ?_
    refine tr_c_i (ms_cV (rest := []) (al := [.int (ms_i s4 (ms_rf (ms_rf l0 6) 4) 1)]) 1 (sp_X1_penOf G hG (d - 1) (by omega) s4 (ms_rf l0 6) (ms_i s4 (ms_rf (ms_rf l0 6) 4) 1) (rk_10_6 h0)) (rk_10_6 h0) (by decide +kernel) kl_X10_221 fv_X1_penOf dX10_line_138 (show _ = some 1 by decide +kernel) (by omega) (Nat.le_of_ble_eq_true rfl) (by decide) (by decide)) (fun v8 => ?_)
    exact tr_iret rfl rfl (by decide) (by decide) dX10_line_141
  refine tr_tsIn (tgt := 142) (off := 111) 6 dX10_line_31 (by decide +kernel) (by decide +kernel) (by decide +kernel) (by decide) ?_ (fun n6 => ?_)
  · refine tr_aload_n (i := 0) dX10_line_142 rfl ?_
    refine tr_d_wi (ms_cV (rest := []) (al := []) 10 (sp_X10_greatestCrown G hG (d - 1) (by omega) s4 l0 h0) h0 (by decide +kernel) kl_X10_224 fv_X10_greatestCrown dX10_line_143 (show _ = some 0 by decide +kernel) (by omega) (Nat.le_of_ble_eq_true rfl) (by decide) (by decide)) (fun v9 s10 => ?_)
    exact tr_iret rfl rfl (by decide) (by decide) dX10_line_146
  refine tr_tsIn (tgt := 147) (off := 116) 7 dX10_line_31 (by decide +kernel) (by decide +kernel) (by decide +kernel) (by decide) ?_ (fun n7 => ?_)
  · refine tr_aload_n (i := 0) dX10_line_147 rfl ?_
    refine tr_d_wi (ms_cV (rest := []) (al := []) 10 (sp_X10_leastFoot G hG (d - 1) (by omega) s4 l0 h0) h0 (by decide +kernel) kl_X10_227 fv_X10_leastFoot dX10_line_148 (show _ = some 0 by decide +kernel) (by omega) (Nat.le_of_ble_eq_true rfl) (by decide) (by decide)) (fun v11 s12 => ?_)
    exact tr_iret rfl rfl (by decide) (by decide) dX10_line_151
  refine tr_tsOut (tgt := 152) dX10_line_31 ?_ (by decide) ?_
  · have q0 := lv_neT (a := 0) n0 (by decide +kernel); have q1 := lv_neT (a := 1) n1 (by decide +kernel); have q2 := lv_neT (a := 2) n2 (by decide +kernel); have q3 := lv_neT (a := 3) n3 (by decide +kernel); have q4 := lv_neT (a := 4) n4 (by decide +kernel); have q5 := lv_neT (a := 5) n5 (by decide +kernel); have q6 := lv_neT (a := 6) n6 (by decide +kernel); have q7 := lv_neT (a := 7) n7 (by decide +kernel); omega
  refine tr_aload_n (i := 0) dX10_line_152 rfl ?_
  refine tr_d_wi (ms_cV (rest := []) (al := []) 10 (sp_X10_countClashes G hG (d - 1) (by omega) s4 l0 h0) h0 (by decide +kernel) kl_X10_230 fv_X10_countClashes dX10_line_153 (show _ = some 0 by decide +kernel) (by omega) (Nat.le_of_ble_eq_true rfl) (by decide) (by decide)) (fun v5 s6 => ?_)
  exact tr_iret rfl rfl (by decide) (by decide) dX10_line_156
theorem dX10_rowOf_0 : decode cX10_rowOf 0 = .ok (.aload_n 0, 1) := by decide +kernel
theorem dX10_rowOf_1 : decode cX10_rowOf 1 = .ok (.getfield 19, 3) := by decide +kernel
theorem dX10_rowOf_4 : decode cX10_rowOf 4 = .ok (.iload_n 1, 1) := by decide +kernel
theorem dX10_rowOf_5 : decode cX10_rowOf 5 = .ok (.invokevirtual 205, 3) := by decide +kernel
theorem dX10_rowOf_8 : decode cX10_rowOf 8 = .ok (.astore_n 3, 1) := by decide +kernel
theorem dX10_rowOf_9 : decode cX10_rowOf 9 = .ok (.iload_n 2, 1) := by decide +kernel
theorem dX10_rowOf_10 : decode cX10_rowOf 10 = .ok (.ifCond .ne 5, 3) := by decide +kernel
theorem dX10_rowOf_13 : decode cX10_rowOf 13 = .ok (.aload_n 3, 1) := by decide +kernel
theorem dX10_rowOf_14 : decode cX10_rowOf 14 = .ok (.areturn, 1) := by decide +kernel
theorem dX10_rowOf_15 : decode cX10_rowOf 15 = .ok (.aload_n 0, 1) := by decide +kernel
theorem dX10_rowOf_16 : decode cX10_rowOf 16 = .ok (.getfield 60, 3) := by decide +kernel
theorem dX10_rowOf_19 : decode cX10_rowOf 19 = .ok (.aload_n 3, 1) := by decide +kernel
theorem dX10_rowOf_20 : decode cX10_rowOf 20 = .ok (.iconst (-1), 1) := by decide +kernel
theorem dX10_rowOf_21 : decode cX10_rowOf 21 = .ok (.invokevirtual 192, 3) := by decide +kernel
theorem dX10_rowOf_24 : decode cX10_rowOf 24 = .ok (.iload_n 2, 1) := by decide +kernel
theorem dX10_rowOf_25 : decode cX10_rowOf 25 = .ok (.iconst 1, 1) := by decide +kernel
theorem dX10_rowOf_26 : decode cX10_rowOf 26 = .ok (.if_icmp .ne 13, 3) := by decide +kernel
theorem dX10_rowOf_29 : decode cX10_rowOf 29 = .ok (.aload_n 0, 1) := by decide +kernel
theorem dX10_rowOf_30 : decode cX10_rowOf 30 = .ok (.getfield 60, 3) := by decide +kernel
theorem dX10_rowOf_33 : decode cX10_rowOf 33 = .ok (.getfield 212, 3) := by decide +kernel
theorem dX10_rowOf_36 : decode cX10_rowOf 36 = .ok (.goto 10, 3) := by decide +kernel
theorem dX10_rowOf_39 : decode cX10_rowOf 39 = .ok (.aload_n 0, 1) := by decide +kernel
theorem dX10_rowOf_40 : decode cX10_rowOf 40 = .ok (.getfield 60, 3) := by decide +kernel
theorem dX10_rowOf_43 : decode cX10_rowOf 43 = .ok (.getfield 196, 3) := by decide +kernel
theorem dX10_rowOf_46 : decode cX10_rowOf 46 = .ok (.areturn, 1) := by decide +kernel
set_option maxRecDepth 100000 in
theorem sp_X10_rowOf (G : MG) (hG : (g_l G).stackTraces = false) (d : Nat) (hd : 5 ≤ d)   (σ : MsSt) (l0 : Nat) (l1 : Int32) (l2 : Int32) (h0 : ms_kd l0 = 11) : MsSpec G mX10_rowOf d 0 0 [.ref l0, .int l1, .int l2] σ ms_wa (f_X10_rowOf σ l0 l1 l2) := by
  refine ms_start (by decide +kernel) rfl rfl (Nat.le_of_ble_eq_true rfl) ?_
  show TrO G mX10_rowOf d 0 0 0 0 ms_wa 0 [(0, .ref l0), (1, .int l1), (2, .int l2)] [] σ ((f_X6_lineAt σ (ms_rf l0 1) l1).bind fun v1 => if l2 = 0 then some (v1, σ) else (f_X1_derive σ (ms_rf l0 6) v1 (-1)).bind fun s2 => if l2 = 1 then some ((ms_rf (ms_rf l0 6) 2), s2) else some ((ms_rf (ms_rf l0 6) 3), s2))
  refine tr_aload_n (i := 0) dX10_rowOf_0 rfl ?_
  refine tr_getR 10 h0 fl_X10_19 (by decide +kernel) dX10_rowOf_1 ?_
  refine tr_iload_n (i := 1) dX10_rowOf_4 rfl ?_
  refine tr_c_a (ms_cV (rest := []) (al := [.int l1]) 6 (sp_X6_lineAt G hG (d - 1) (by omega) σ (ms_rf l0 1) l1 (rk_10_1 h0)) (rk_10_1 h0) (by decide +kernel) kl_X10_205 fv_X6_lineAt dX10_rowOf_5 (show _ = some 1 by decide +kernel) (by omega) (Nat.le_of_ble_eq_true rfl) (by decide) (by decide)) (fun v1 e_v1 => ?_)
  refine tr_astore_n (lv' := [(0, .ref l0), (2, .int l2), (3, .ref v1)]) [1, 3, 0] dX10_rowOf_8 (by decide) rfl ?_
  refine tr_iload_n (i := 1) dX10_rowOf_9 rfl ?_
  refine tr_ifne (o := none) (tgt := 15) dX10_rowOf_10 (by decide) ?_ ?_
  · refine tr_aload_n (i := 0) dX10_rowOf_15 rfl ?_
    refine tr_getR 10 h0 fl_X10_60 (by decide +kernel) dX10_rowOf_16 ?_
    refine tr_aload_n (i := 2) dX10_rowOf_19 rfl ?_
    refine tr_iconst (v := (-1)) dX10_rowOf_20 (by decide +kernel) ?_
    refine tr_c_wv (ms_cV (rest := []) (al := [.ref v1, .int (-1)]) 1 (sp_X1_derive G hG (d - 1) (by omega) σ (ms_rf l0 6) v1 (-1) (rk_10_6 h0) (ra_X6_lineAt (rk_10_1 h0) e_v1)) (rk_10_6 h0) (by decide +kernel) kl_X10_192 fv_X1_derive dX10_rowOf_21 (show _ = some 2 by decide +kernel) (by omega) (Nat.le_of_ble_eq_true rfl) (by decide) (by decide)) (fun s2 => ?_)
    refine tr_iload_n (i := 1) dX10_rowOf_24 rfl ?_
    refine tr_iconst (v := 1) dX10_rowOf_25 (by decide +kernel) ?_
    refine tr_icne (o := none) (tgt := 39) dX10_rowOf_26 (by decide) ?_ ?_
    · refine tr_aload_n (i := 0) dX10_rowOf_39 rfl ?_
      refine tr_getR 10 h0 fl_X10_60 (by decide +kernel) dX10_rowOf_40 ?_
      refine tr_getR 1 (rk_10_6 h0) fl_X10_196 (by decide +kernel) dX10_rowOf_43 ?_
      exact tr_aret rfl rfl (by decide) (by decide) dX10_rowOf_46
    · refine tr_aload_n (i := 0) dX10_rowOf_29 rfl ?_
      refine tr_getR 10 h0 fl_X10_60 (by decide +kernel) dX10_rowOf_30 ?_
      refine tr_getR 1 (rk_10_6 h0) fl_X10_212 (by decide +kernel) dX10_rowOf_33 ?_
      refine tr_goto (tgt := 46) dX10_rowOf_36 (by decide) ?_
      exact tr_aret rfl rfl (by decide) (by decide) dX10_rowOf_46
  · refine tr_aload_n (i := 2) dX10_rowOf_13 rfl ?_
    exact tr_aret rfl rfl (by decide) (by decide) dX10_rowOf_14
theorem dX10_at_0 : decode cX10_at 0 = .ok (.aload_n 0, 1) := by decide +kernel
theorem dX10_at_1 : decode cX10_at 1 = .ok (.iload_n 1, 1) := by decide +kernel
theorem dX10_at_2 : decode cX10_at 2 = .ok (.invokevirtual 202, 3) := by decide +kernel
theorem dX10_at_5 : decode cX10_at 5 = .ok (.iload_n 2, 1) := by decide +kernel
theorem dX10_at_6 : decode cX10_at 6 = .ok (.iconst 0, 1) := by decide +kernel
theorem dX10_at_7 : decode cX10_at 7 = .ok (.iconst 2, 1) := by decide +kernel
theorem dX10_at_8 : decode cX10_at 8 = .ok (.invokestatic 128, 3) := by decide +kernel
theorem dX10_at_11 : decode cX10_at 11 = .ok (.aload_n 0, 1) := by decide +kernel
theorem dX10_at_12 : decode cX10_at 12 = .ok (.iload_n 1, 1) := by decide +kernel
theorem dX10_at_13 : decode cX10_at 13 = .ok (.iload_n 2, 1) := by decide +kernel
theorem dX10_at_14 : decode cX10_at 14 = .ok (.invokevirtual 233, 3) := by decide +kernel
theorem dX10_at_17 : decode cX10_at 17 = .ok (.astore 4, 2) := by decide +kernel
theorem dX10_at_19 : decode cX10_at 19 = .ok (.iload_n 3, 1) := by decide +kernel
theorem dX10_at_20 : decode cX10_at 20 = .ok (.iconst 0, 1) := by decide +kernel
theorem dX10_at_21 : decode cX10_at 21 = .ok (.aload 4, 2) := by decide +kernel
theorem dX10_at_23 : decode cX10_at 23 = .ok (.getfield 209, 3) := by decide +kernel
theorem dX10_at_26 : decode cX10_at 26 = .ok (.iconst 1, 1) := by decide +kernel
theorem dX10_at_27 : decode cX10_at 27 = .ok (.isub, 1) := by decide +kernel
theorem dX10_at_28 : decode cX10_at 28 = .ok (.invokestatic 128, 3) := by decide +kernel
theorem dX10_at_31 : decode cX10_at 31 = .ok (.aload 4, 2) := by decide +kernel
theorem dX10_at_33 : decode cX10_at 33 = .ok (.iload_n 3, 1) := by decide +kernel
theorem dX10_at_34 : decode cX10_at 34 = .ok (.invokevirtual 199, 3) := by decide +kernel
theorem dX10_at_37 : decode cX10_at 37 = .ok (.ireturn, 1) := by decide +kernel
set_option maxRecDepth 100000 in
theorem sp_X10_at (G : MG) (hG : (g_l G).stackTraces = false) (d : Nat) (hd : 8 ≤ d)   (σ : MsSt) (l0 : Nat) (l1 : Int32) (l2 : Int32) (l3 : Int32) (h0 : ms_kd l0 = 11) : MsSpec G mX10_at d 3 18 [.ref l0, .int l1, .int l2, .int l3] σ ms_ui (f_X10_at σ l0 l1 l2 l3) := by
  refine ms_start (by decide +kernel) rfl rfl (Nat.le_of_ble_eq_true rfl) ?_
  show TrO G mX10_at d 3 18 0 0 ms_ui 0 [(0, .ref l0), (1, .int l1), (2, .int l2), (3, .int l3)] [] σ (ms_bt (f_X10_needLine σ l0 l1) (ms_bt (f_X10_needIn σ l2 0 2) (ms_b2 (f_X10_rowOf σ l0 l1 l2) fun v3 s4 => ms_bt (f_X10_needIn s4 l3 0 ((ms_i s4 v3 1) - 1)) ((f_X5_get s4 v3 l3).bind fun v6 => some (.inl v6, s4)) (fun e5 => some (.inr e5, s4))) (fun e2 => some (.inr e2, σ))) (fun e1 => some (.inr e1, σ)))
  refine tr_aload_n (i := 0) dX10_at_0 rfl ?_
  refine tr_iload_n (i := 1) dX10_at_1 rfl ?_
  refine tr_d_tv (ms_cV (rest := []) (al := [.int l1]) 10 (sp_X10_needLine G hG (d - 1) (by omega) σ l0 l1 h0) h0 (by decide +kernel) kl_X10_202 fv_X10_needLine dX10_at_2 (show _ = some 1 by decide +kernel) (by omega) (Nat.le_of_ble_eq_true rfl) (by decide) (by decide)) rfl (by decide) (by decide) ?_ (fun e0 r h => by cases h; rfl)
  refine tr_iload_n (i := 2) dX10_at_5 rfl ?_
  refine tr_iconst (v := 0) dX10_at_6 (by decide +kernel) ?_
  refine tr_iconst (v := 2) dX10_at_7 (by decide +kernel) ?_
  refine tr_d_tv (ms_cS (rest := []) (al := [.int l2, .int 0, .int 2]) (sp_X10_needIn G hG (d - 1) (by omega) σ l2 0 2) kl_X10_128 fs_X10_needIn dX10_at_8 (show _ = some 3 by decide +kernel) (by omega) (Nat.le_of_ble_eq_true rfl) (by decide) (by decide)) rfl (by decide) (by decide) ?_ (fun e0 r h => by cases h; rfl)
  refine tr_aload_n (i := 0) dX10_at_11 rfl ?_
  refine tr_iload_n (i := 1) dX10_at_12 rfl ?_
  refine tr_iload_n (i := 2) dX10_at_13 rfl ?_
  refine tr_d_wa (ms_cV (rest := []) (al := [.int l1, .int l2]) 10 (sp_X10_rowOf G hG (d - 1) (by omega) σ l0 l1 l2 h0) h0 (by decide +kernel) kl_X10_233 fv_X10_rowOf dX10_at_14 (show _ = some 2 by decide +kernel) (by omega) (Nat.le_of_ble_eq_true rfl) (by decide) (by decide)) (fun v3 s4 e_v3 => ?_)
  refine tr_astore (lv' := [(3, .int l3), (4, .ref v3)]) [4, 0] dX10_at_17 (by decide) rfl ?_
  refine tr_iload_n (i := 0) dX10_at_19 rfl ?_
  refine tr_iconst (v := 0) dX10_at_20 (by decide +kernel) ?_
  refine tr_aload (i := 1) dX10_at_21 rfl ?_
  refine tr_getI 5 (ra_X10_rowOf h0 e_v3) fl_X10_209 (by decide +kernel) dX10_at_23 ?_
  refine tr_iconst (v := 1) dX10_at_26 (by decide +kernel) ?_
  refine tr_isub dX10_at_27 ?_
  refine tr_d_tv (ms_cS (rest := []) (al := [.int l3, .int 0, .int ((ms_i s4 v3 1) - 1)]) (sp_X10_needIn G hG (d - 1) (by omega) s4 l3 0 ((ms_i s4 v3 1) - 1)) kl_X10_128 fs_X10_needIn dX10_at_28 (show _ = some 3 by decide +kernel) (by omega) (Nat.le_of_ble_eq_true rfl) (by decide) (by decide)) rfl (by decide) (by decide) ?_ (fun e0 r h => by cases h; rfl)
  refine tr_aload (i := 1) dX10_at_31 rfl ?_
  refine tr_iload_n (i := 0) dX10_at_33 rfl ?_
  refine tr_c_i (ms_cV (rest := []) (al := [.int l3]) 5 (sp_X5_get G hG (d - 1) (by omega) s4 v3 l3 (ra_X10_rowOf h0 e_v3)) (ra_X10_rowOf h0 e_v3) (by decide +kernel) kl_X10_199 fv_X5_get dX10_at_34 (show _ = some 1 by decide +kernel) (by omega) (Nat.le_of_ble_eq_true rfl) (by decide) (by decide)) (fun v6 => ?_)
  exact tr_iret rfl rfl (by decide) (by decide) dX10_at_37
theorem dX10_unlike_0 : decode cX10_unlike 0 = .ok (.aload_n 0, 1) := by decide +kernel
theorem dX10_unlike_1 : decode cX10_unlike 1 = .ok (.iload_n 1, 1) := by decide +kernel
theorem dX10_unlike_2 : decode cX10_unlike 2 = .ok (.invokevirtual 202, 3) := by decide +kernel
theorem dX10_unlike_5 : decode cX10_unlike 5 = .ok (.iload_n 2, 1) := by decide +kernel
theorem dX10_unlike_6 : decode cX10_unlike 6 = .ok (.iconst 1, 1) := by decide +kernel
theorem dX10_unlike_7 : decode cX10_unlike 7 = .ok (.iconst 2, 1) := by decide +kernel
theorem dX10_unlike_8 : decode cX10_unlike 8 = .ok (.invokestatic 128, 3) := by decide +kernel
theorem dX10_unlike_11 : decode cX10_unlike 11 = .ok (.aload_n 0, 1) := by decide +kernel
theorem dX10_unlike_12 : decode cX10_unlike 12 = .ok (.getfield 19, 3) := by decide +kernel
theorem dX10_unlike_15 : decode cX10_unlike 15 = .ok (.iload_n 1, 1) := by decide +kernel
theorem dX10_unlike_16 : decode cX10_unlike 16 = .ok (.invokevirtual 205, 3) := by decide +kernel
theorem dX10_unlike_19 : decode cX10_unlike 19 = .ok (.aload_n 0, 1) := by decide +kernel
theorem dX10_unlike_20 : decode cX10_unlike 20 = .ok (.iload_n 1, 1) := by decide +kernel
theorem dX10_unlike_21 : decode cX10_unlike 21 = .ok (.iload_n 2, 1) := by decide +kernel
theorem dX10_unlike_22 : decode cX10_unlike 22 = .ok (.invokevirtual 233, 3) := by decide +kernel
theorem dX10_unlike_25 : decode cX10_unlike 25 = .ok (.invokevirtual 237, 3) := by decide +kernel
theorem dX10_unlike_28 : decode cX10_unlike 28 = .ok (.ireturn, 1) := by decide +kernel
set_option maxRecDepth 100000 in
theorem sp_X10_unlike (G : MG) (hG : (g_l G).stackTraces = false) (d : Nat) (hd : 8 ≤ d)   (σ : MsSt) (l0 : Nat) (l1 : Int32) (l2 : Int32) (h0 : ms_kd l0 = 11) : MsSpec G mX10_unlike d 2 12 [.ref l0, .int l1, .int l2] σ ms_ui (f_X10_unlike σ l0 l1 l2) := by
  refine ms_start (by decide +kernel) rfl rfl (Nat.le_of_ble_eq_true rfl) ?_
  show TrO G mX10_unlike d 2 12 0 0 ms_ui 0 [(0, .ref l0), (1, .int l1), (2, .int l2)] [] σ (ms_bt (f_X10_needLine σ l0 l1) (ms_bt (f_X10_needIn σ l2 1 2) ((f_X6_lineAt σ (ms_rf l0 1) l1).bind fun v3 => ms_b2 (f_X10_rowOf σ l0 l1 l2) fun v4 s5 => (f_X5_firstUnlike s5 v3 v4).bind fun v6 => some (.inl v6, s5)) (fun e2 => some (.inr e2, σ))) (fun e1 => some (.inr e1, σ)))
  refine tr_aload_n (i := 0) dX10_unlike_0 rfl ?_
  refine tr_iload_n (i := 1) dX10_unlike_1 rfl ?_
  refine tr_d_tv (ms_cV (rest := []) (al := [.int l1]) 10 (sp_X10_needLine G hG (d - 1) (by omega) σ l0 l1 h0) h0 (by decide +kernel) kl_X10_202 fv_X10_needLine dX10_unlike_2 (show _ = some 1 by decide +kernel) (by omega) (Nat.le_of_ble_eq_true rfl) (by decide) (by decide)) rfl (by decide) (by decide) ?_ (fun e0 r h => by cases h; rfl)
  refine tr_iload_n (i := 2) dX10_unlike_5 rfl ?_
  refine tr_iconst (v := 1) dX10_unlike_6 (by decide +kernel) ?_
  refine tr_iconst (v := 2) dX10_unlike_7 (by decide +kernel) ?_
  refine tr_d_tv (ms_cS (rest := []) (al := [.int l2, .int 1, .int 2]) (sp_X10_needIn G hG (d - 1) (by omega) σ l2 1 2) kl_X10_128 fs_X10_needIn dX10_unlike_8 (show _ = some 3 by decide +kernel) (by omega) (Nat.le_of_ble_eq_true rfl) (by decide) (by decide)) rfl (by decide) (by decide) ?_ (fun e0 r h => by cases h; rfl)
  refine tr_aload_n (i := 0) dX10_unlike_11 rfl ?_
  refine tr_getR 10 h0 fl_X10_19 (by decide +kernel) dX10_unlike_12 ?_
  refine tr_iload_n (i := 1) dX10_unlike_15 rfl ?_
  refine tr_c_a (ms_cV (rest := []) (al := [.int l1]) 6 (sp_X6_lineAt G hG (d - 1) (by omega) σ (ms_rf l0 1) l1 (rk_10_1 h0)) (rk_10_1 h0) (by decide +kernel) kl_X10_205 fv_X6_lineAt dX10_unlike_16 (show _ = some 1 by decide +kernel) (by omega) (Nat.le_of_ble_eq_true rfl) (by decide) (by decide)) (fun v3 e_v3 => ?_)
  refine tr_aload_n (i := 0) dX10_unlike_19 rfl ?_
  refine tr_iload_n (i := 1) dX10_unlike_20 rfl ?_
  refine tr_iload_n (i := 2) dX10_unlike_21 rfl ?_
  refine tr_d_wa (ms_cV (rest := [.ref v3]) (al := [.int l1, .int l2]) 10 (sp_X10_rowOf G hG (d - 1) (by omega) σ l0 l1 l2 h0) h0 (by decide +kernel) kl_X10_233 fv_X10_rowOf dX10_unlike_22 (show _ = some 2 by decide +kernel) (by omega) (Nat.le_of_ble_eq_true rfl) (by decide) (by decide)) (fun v4 s5 e_v4 => ?_)
  refine tr_c_i (ms_cV (rest := []) (al := [.ref v4]) 5 (sp_X5_firstUnlike G hG (d - 1) (by omega) s5 v3 v4 (ra_X6_lineAt (rk_10_1 h0) e_v3) (ra_X10_rowOf h0 e_v4)) (ra_X6_lineAt (rk_10_1 h0) e_v3) (by decide +kernel) kl_X10_237 fv_X5_firstUnlike dX10_unlike_25 (show _ = some 1 by decide +kernel) (by omega) (Nat.le_of_ble_eq_true rfl) (by decide) (by decide)) (fun v6 => ?_)
  exact tr_iret rfl rfl (by decide) (by decide) dX10_unlike_28
theorem dX10_clusterOf_0 : decode cX10_clusterOf 0 = .ok (.aload_n 0, 1) := by decide +kernel
theorem dX10_clusterOf_1 : decode cX10_clusterOf 1 = .ok (.iload_n 1, 1) := by decide +kernel
theorem dX10_clusterOf_2 : decode cX10_clusterOf 2 = .ok (.invokevirtual 202, 3) := by decide +kernel
theorem dX10_clusterOf_5 : decode cX10_clusterOf 5 = .ok (.aload_n 0, 1) := by decide +kernel
theorem dX10_clusterOf_6 : decode cX10_clusterOf 6 = .ok (.getfield 19, 3) := by decide +kernel
theorem dX10_clusterOf_9 : decode cX10_clusterOf 9 = .ok (.iload_n 1, 1) := by decide +kernel
theorem dX10_clusterOf_10 : decode cX10_clusterOf 10 = .ok (.invokevirtual 205, 3) := by decide +kernel
theorem dX10_clusterOf_13 : decode cX10_clusterOf 13 = .ok (.astore_n 3, 1) := by decide +kernel
theorem dX10_clusterOf_14 : decode cX10_clusterOf 14 = .ok (.iload_n 2, 1) := by decide +kernel
theorem dX10_clusterOf_15 : decode cX10_clusterOf 15 = .ok (.iconst 0, 1) := by decide +kernel
theorem dX10_clusterOf_16 : decode cX10_clusterOf 16 = .ok (.aload_n 3, 1) := by decide +kernel
theorem dX10_clusterOf_17 : decode cX10_clusterOf 17 = .ok (.getfield 209, 3) := by decide +kernel
theorem dX10_clusterOf_20 : decode cX10_clusterOf 20 = .ok (.iconst 1, 1) := by decide +kernel
theorem dX10_clusterOf_21 : decode cX10_clusterOf 21 = .ok (.isub, 1) := by decide +kernel
theorem dX10_clusterOf_22 : decode cX10_clusterOf 22 = .ok (.invokestatic 128, 3) := by decide +kernel
theorem dX10_clusterOf_25 : decode cX10_clusterOf 25 = .ok (.aload_n 0, 1) := by decide +kernel
theorem dX10_clusterOf_26 : decode cX10_clusterOf 26 = .ok (.getfield 19, 3) := by decide +kernel
theorem dX10_clusterOf_29 : decode cX10_clusterOf 29 = .ok (.aload_n 3, 1) := by decide +kernel
theorem dX10_clusterOf_30 : decode cX10_clusterOf 30 = .ok (.iload_n 2, 1) := by decide +kernel
theorem dX10_clusterOf_31 : decode cX10_clusterOf 31 = .ok (.invokevirtual 241, 3) := by decide +kernel
theorem dX10_clusterOf_34 : decode cX10_clusterOf 34 = .ok (.ireturn, 1) := by decide +kernel
set_option maxRecDepth 100000 in
theorem sp_X10_clusterOf (G : MG) (hG : (g_l G).stackTraces = false) (d : Nat) (hd : 8 ≤ d)   (σ : MsSt) (l0 : Nat) (l1 : Int32) (l2 : Int32) (h0 : ms_kd l0 = 11) : MsSpec G mX10_clusterOf d 2 12 [.ref l0, .int l1, .int l2] σ (ms_ti σ) (f_X10_clusterOf σ l0 l1 l2) := by
  refine ms_start (by decide +kernel) rfl rfl (Nat.le_of_ble_eq_true rfl) ?_
  show TrO G mX10_clusterOf d 2 12 0 0 (ms_ti σ) 0 [(0, .ref l0), (1, .int l1), (2, .int l2)] [] σ (ms_bt (f_X10_needLine σ l0 l1) ((f_X6_lineAt σ (ms_rf l0 1) l1).bind fun v2 => ms_bt (f_X10_needIn σ l2 0 ((ms_i σ v2 1) - 1)) ((f_X6_clusterAt σ (ms_rf l0 1) v2 l2).bind fun v4 => some (.inl v4)) (fun e3 => some (.inr e3))) (fun e1 => some (.inr e1)))
  refine tr_aload_n (i := 0) dX10_clusterOf_0 rfl ?_
  refine tr_iload_n (i := 1) dX10_clusterOf_1 rfl ?_
  refine tr_d_tv (ms_cV (rest := []) (al := [.int l1]) 10 (sp_X10_needLine G hG (d - 1) (by omega) σ l0 l1 h0) h0 (by decide +kernel) kl_X10_202 fv_X10_needLine dX10_clusterOf_2 (show _ = some 1 by decide +kernel) (by omega) (Nat.le_of_ble_eq_true rfl) (by decide) (by decide)) rfl (by decide) (by decide) ?_ (fun e0 r h => by cases h; rfl)
  refine tr_aload_n (i := 0) dX10_clusterOf_5 rfl ?_
  refine tr_getR 10 h0 fl_X10_19 (by decide +kernel) dX10_clusterOf_6 ?_
  refine tr_iload_n (i := 1) dX10_clusterOf_9 rfl ?_
  refine tr_c_a (ms_cV (rest := []) (al := [.int l1]) 6 (sp_X6_lineAt G hG (d - 1) (by omega) σ (ms_rf l0 1) l1 (rk_10_1 h0)) (rk_10_1 h0) (by decide +kernel) kl_X10_205 fv_X6_lineAt dX10_clusterOf_10 (show _ = some 1 by decide +kernel) (by omega) (Nat.le_of_ble_eq_true rfl) (by decide) (by decide)) (fun v2 e_v2 => ?_)
  refine tr_astore_n (lv' := [(0, .ref l0), (2, .int l2), (3, .ref v2)]) [1, 3, 0] dX10_clusterOf_13 (by decide) rfl ?_
  refine tr_iload_n (i := 1) dX10_clusterOf_14 rfl ?_
  refine tr_iconst (v := 0) dX10_clusterOf_15 (by decide +kernel) ?_
  refine tr_aload_n (i := 2) dX10_clusterOf_16 rfl ?_
  refine tr_getI 5 (ra_X6_lineAt (rk_10_1 h0) e_v2) fl_X10_209 (by decide +kernel) dX10_clusterOf_17 ?_
  refine tr_iconst (v := 1) dX10_clusterOf_20 (by decide +kernel) ?_
  refine tr_isub dX10_clusterOf_21 ?_
  refine tr_d_tv (ms_cS (rest := []) (al := [.int l2, .int 0, .int ((ms_i σ v2 1) - 1)]) (sp_X10_needIn G hG (d - 1) (by omega) σ l2 0 ((ms_i σ v2 1) - 1)) kl_X10_128 fs_X10_needIn dX10_clusterOf_22 (show _ = some 3 by decide +kernel) (by omega) (Nat.le_of_ble_eq_true rfl) (by decide) (by decide)) rfl (by decide) (by decide) ?_ (fun e0 r h => by cases h; rfl)
  refine tr_aload_n (i := 0) dX10_clusterOf_25 rfl ?_
  refine tr_getR 10 h0 fl_X10_19 (by decide +kernel) dX10_clusterOf_26 ?_
  refine tr_aload_n (i := 2) dX10_clusterOf_29 rfl ?_
  refine tr_iload_n (i := 1) dX10_clusterOf_30 rfl ?_
  refine tr_c_i (ms_cV (rest := []) (al := [.ref v2, .int l2]) 6 (sp_X6_clusterAt G hG (d - 1) (by omega) σ (ms_rf l0 1) v2 l2 (rk_10_1 h0) (ra_X6_lineAt (rk_10_1 h0) e_v2)) (rk_10_1 h0) (by decide +kernel) kl_X10_241 fv_X6_clusterAt dX10_clusterOf_31 (show _ = some 2 by decide +kernel) (by omega) (Nat.le_of_ble_eq_true rfl) (by decide) (by decide)) (fun v4 => ?_)
  exact tr_iret rfl rfl (by decide) (by decide) dX10_clusterOf_34
theorem dX10_needCluster_0 : decode cX10_needCluster 0 = .ok (.aload_n 0, 1) := by decide +kernel
theorem dX10_needCluster_1 : decode cX10_needCluster 1 = .ok (.iload_n 1, 1) := by decide +kernel
theorem dX10_needCluster_2 : decode cX10_needCluster 2 = .ok (.invokevirtual 202, 3) := by decide +kernel
theorem dX10_needCluster_5 : decode cX10_needCluster 5 = .ok (.aload_n 0, 1) := by decide +kernel
theorem dX10_needCluster_6 : decode cX10_needCluster 6 = .ok (.getfield 60, 3) := by decide +kernel
theorem dX10_needCluster_9 : decode cX10_needCluster 9 = .ok (.aload_n 0, 1) := by decide +kernel
theorem dX10_needCluster_10 : decode cX10_needCluster 10 = .ok (.getfield 19, 3) := by decide +kernel
theorem dX10_needCluster_13 : decode cX10_needCluster 13 = .ok (.iload_n 1, 1) := by decide +kernel
theorem dX10_needCluster_14 : decode cX10_needCluster 14 = .ok (.invokevirtual 205, 3) := by decide +kernel
theorem dX10_needCluster_17 : decode cX10_needCluster 17 = .ok (.iconst (-1), 1) := by decide +kernel
theorem dX10_needCluster_18 : decode cX10_needCluster 18 = .ok (.invokevirtual 192, 3) := by decide +kernel
theorem dX10_needCluster_21 : decode cX10_needCluster 21 = .ok (.iload_n 2, 1) := by decide +kernel
theorem dX10_needCluster_22 : decode cX10_needCluster 22 = .ok (.iconst 0, 1) := by decide +kernel
theorem dX10_needCluster_23 : decode cX10_needCluster 23 = .ok (.aload_n 0, 1) := by decide +kernel
theorem dX10_needCluster_24 : decode cX10_needCluster 24 = .ok (.getfield 60, 3) := by decide +kernel
theorem dX10_needCluster_27 : decode cX10_needCluster 27 = .ok (.getfield 218, 3) := by decide +kernel
theorem dX10_needCluster_30 : decode cX10_needCluster 30 = .ok (.getfield 209, 3) := by decide +kernel
theorem dX10_needCluster_33 : decode cX10_needCluster 33 = .ok (.iconst 1, 1) := by decide +kernel
theorem dX10_needCluster_34 : decode cX10_needCluster 34 = .ok (.isub, 1) := by decide +kernel
theorem dX10_needCluster_35 : decode cX10_needCluster 35 = .ok (.invokestatic 128, 3) := by decide +kernel
theorem dX10_needCluster_38 : decode cX10_needCluster 38 = .ok (.return_, 1) := by decide +kernel
set_option maxRecDepth 100000 in
theorem sp_X10_needCluster (G : MG) (hG : (g_l G).stackTraces = false) (d : Nat) (hd : 8 ≤ d)   (σ : MsSt) (l0 : Nat) (l1 : Int32) (l2 : Int32) (h0 : ms_kd l0 = 11) : MsSpec G mX10_needCluster d 2 12 [.ref l0, .int l1, .int l2] σ ms_uv (f_X10_needCluster σ l0 l1 l2) := by
  refine ms_start (by decide +kernel) rfl rfl (Nat.le_of_ble_eq_true rfl) ?_
  show TrO G mX10_needCluster d 2 12 0 0 ms_uv 0 [(0, .ref l0), (1, .int l1), (2, .int l2)] [] σ (ms_bt (f_X10_needLine σ l0 l1) ((f_X6_lineAt σ (ms_rf l0 1) l1).bind fun v2 => (f_X1_derive σ (ms_rf l0 6) v2 (-1)).bind fun s3 => ms_bt (f_X10_needIn s3 l2 0 ((ms_i s3 (ms_rf (ms_rf l0 6) 4) 1) - 1)) (some (none, s3)) (fun e4 => some (some e4, s3))) (fun e1 => some (some e1, σ)))
  refine tr_aload_n (i := 0) dX10_needCluster_0 rfl ?_
  refine tr_iload_n (i := 1) dX10_needCluster_1 rfl ?_
  refine tr_d_tv (ms_cV (rest := []) (al := [.int l1]) 10 (sp_X10_needLine G hG (d - 1) (by omega) σ l0 l1 h0) h0 (by decide +kernel) kl_X10_202 fv_X10_needLine dX10_needCluster_2 (show _ = some 1 by decide +kernel) (by omega) (Nat.le_of_ble_eq_true rfl) (by decide) (by decide)) rfl (by decide) (by decide) ?_ (fun e0 r h => by cases h; rfl)
  refine tr_aload_n (i := 0) dX10_needCluster_5 rfl ?_
  refine tr_getR 10 h0 fl_X10_60 (by decide +kernel) dX10_needCluster_6 ?_
  refine tr_aload_n (i := 0) dX10_needCluster_9 rfl ?_
  refine tr_getR 10 h0 fl_X10_19 (by decide +kernel) dX10_needCluster_10 ?_
  refine tr_iload_n (i := 1) dX10_needCluster_13 rfl ?_
  refine tr_c_a (ms_cV (rest := [.ref (ms_rf l0 6)]) (al := [.int l1]) 6 (sp_X6_lineAt G hG (d - 1) (by omega) σ (ms_rf l0 1) l1 (rk_10_1 h0)) (rk_10_1 h0) (by decide +kernel) kl_X10_205 fv_X6_lineAt dX10_needCluster_14 (show _ = some 1 by decide +kernel) (by omega) (Nat.le_of_ble_eq_true rfl) (by decide) (by decide)) (fun v2 e_v2 => ?_)
  refine tr_iconst (v := (-1)) dX10_needCluster_17 (by decide +kernel) ?_
  refine tr_c_wv (ms_cV (rest := []) (al := [.ref v2, .int (-1)]) 1 (sp_X1_derive G hG (d - 1) (by omega) σ (ms_rf l0 6) v2 (-1) (rk_10_6 h0) (ra_X6_lineAt (rk_10_1 h0) e_v2)) (rk_10_6 h0) (by decide +kernel) kl_X10_192 fv_X1_derive dX10_needCluster_18 (show _ = some 2 by decide +kernel) (by omega) (Nat.le_of_ble_eq_true rfl) (by decide) (by decide)) (fun s3 => ?_)
  refine tr_iload_n (i := 2) dX10_needCluster_21 rfl ?_
  refine tr_iconst (v := 0) dX10_needCluster_22 (by decide +kernel) ?_
  refine tr_aload_n (i := 0) dX10_needCluster_23 rfl ?_
  refine tr_getR 10 h0 fl_X10_60 (by decide +kernel) dX10_needCluster_24 ?_
  refine tr_getR 1 (rk_10_6 h0) fl_X10_218 (by decide +kernel) dX10_needCluster_27 ?_
  refine tr_getI 5 (rk_1_4 (rk_10_6 h0)) fl_X10_209 (by decide +kernel) dX10_needCluster_30 ?_
  refine tr_iconst (v := 1) dX10_needCluster_33 (by decide +kernel) ?_
  refine tr_isub dX10_needCluster_34 ?_
  refine tr_d_tv (ms_cS (rest := []) (al := [.int l2, .int 0, .int ((ms_i s3 (ms_rf (ms_rf l0 6) 4) 1) - 1)]) (sp_X10_needIn G hG (d - 1) (by omega) s3 l2 0 ((ms_i s3 (ms_rf (ms_rf l0 6) 4) 1) - 1)) kl_X10_128 fs_X10_needIn dX10_needCluster_35 (show _ = some 3 by decide +kernel) (by omega) (Nat.le_of_ble_eq_true rfl) (by decide) (by decide)) rfl (by decide) (by decide) ?_ (fun e0 r h => by cases h; rfl)
  exact tr_vret rfl rfl (by decide) (by decide) dX10_needCluster_38
theorem dX10_cluster_0 : decode cX10_cluster 0 = .ok (.aload_n 0, 1) := by decide +kernel
theorem dX10_cluster_1 : decode cX10_cluster 1 = .ok (.iload_n 1, 1) := by decide +kernel
theorem dX10_cluster_2 : decode cX10_cluster 2 = .ok (.iload_n 2, 1) := by decide +kernel
theorem dX10_cluster_3 : decode cX10_cluster 3 = .ok (.invokevirtual 245, 3) := by decide +kernel
theorem dX10_cluster_6 : decode cX10_cluster 6 = .ok (.iload_n 3, 1) := by decide +kernel
theorem dX10_cluster_7 : decode cX10_cluster 7 = .ok (.iconst 0, 1) := by decide +kernel
theorem dX10_cluster_8 : decode cX10_cluster 8 = .ok (.bipush 8, 2) := by decide +kernel
theorem dX10_cluster_10 : decode cX10_cluster 10 = .ok (.invokestatic 128, 3) := by decide +kernel
theorem dX10_cluster_13 : decode cX10_cluster 13 = .ok (.aload_n 0, 1) := by decide +kernel
theorem dX10_cluster_14 : decode cX10_cluster 14 = .ok (.getfield 70, 3) := by decide +kernel
theorem dX10_cluster_17 : decode cX10_cluster 17 = .ok (.aload_n 0, 1) := by decide +kernel
theorem dX10_cluster_18 : decode cX10_cluster 18 = .ok (.getfield 60, 3) := by decide +kernel
theorem dX10_cluster_21 : decode cX10_cluster 21 = .ok (.iload_n 2, 1) := by decide +kernel
theorem dX10_cluster_22 : decode cX10_cluster 22 = .ok (.invokevirtual 248, 3) := by decide +kernel
theorem dX10_cluster_25 : decode cX10_cluster 25 = .ok (.iload_n 3, 1) := by decide +kernel
theorem dX10_cluster_26 : decode cX10_cluster 26 = .ok (.tableswitch 120 0 7 #[46, 58, 67, 79, 88, 96, 104, 112], 46) := by decide +kernel
theorem dX10_cluster_72 : decode cX10_cluster 72 = .ok (.aload_n 0, 1) := by decide +kernel
theorem dX10_cluster_73 : decode cX10_cluster 73 = .ok (.getfield 60, 3) := by decide +kernel
theorem dX10_cluster_76 : decode cX10_cluster 76 = .ok (.getfield 252, 3) := by decide +kernel
theorem dX10_cluster_79 : decode cX10_cluster 79 = .ok (.iload_n 2, 1) := by decide +kernel
theorem dX10_cluster_80 : decode cX10_cluster 80 = .ok (.invokevirtual 199, 3) := by decide +kernel
theorem dX10_cluster_83 : decode cX10_cluster 83 = .ok (.ireturn, 1) := by decide +kernel
theorem dX10_cluster_84 : decode cX10_cluster 84 = .ok (.aload_n 0, 1) := by decide +kernel
theorem dX10_cluster_85 : decode cX10_cluster 85 = .ok (.getfield 60, 3) := by decide +kernel
theorem dX10_cluster_88 : decode cX10_cluster 88 = .ok (.iload_n 2, 1) := by decide +kernel
theorem dX10_cluster_89 : decode cX10_cluster 89 = .ok (.invokevirtual 255, 3) := by decide +kernel
theorem dX10_cluster_92 : decode cX10_cluster 92 = .ok (.ireturn, 1) := by decide +kernel
theorem dX10_cluster_93 : decode cX10_cluster 93 = .ok (.aload_n 0, 1) := by decide +kernel
theorem dX10_cluster_94 : decode cX10_cluster 94 = .ok (.getfield 60, 3) := by decide +kernel
theorem dX10_cluster_97 : decode cX10_cluster 97 = .ok (.getfield 218, 3) := by decide +kernel
theorem dX10_cluster_100 : decode cX10_cluster 100 = .ok (.iload_n 2, 1) := by decide +kernel
theorem dX10_cluster_101 : decode cX10_cluster 101 = .ok (.invokevirtual 199, 3) := by decide +kernel
theorem dX10_cluster_104 : decode cX10_cluster 104 = .ok (.ireturn, 1) := by decide +kernel
theorem dX10_cluster_105 : decode cX10_cluster 105 = .ok (.aload_n 0, 1) := by decide +kernel
theorem dX10_cluster_106 : decode cX10_cluster 106 = .ok (.getfield 60, 3) := by decide +kernel
theorem dX10_cluster_109 : decode cX10_cluster 109 = .ok (.iload_n 2, 1) := by decide +kernel
theorem dX10_cluster_110 : decode cX10_cluster 110 = .ok (.invokevirtual 221, 3) := by decide +kernel
theorem dX10_cluster_113 : decode cX10_cluster 113 = .ok (.ireturn, 1) := by decide +kernel
theorem dX10_cluster_114 : decode cX10_cluster 114 = .ok (.aload_n 0, 1) := by decide +kernel
theorem dX10_cluster_115 : decode cX10_cluster 115 = .ok (.getfield 70, 3) := by decide +kernel
theorem dX10_cluster_118 : decode cX10_cluster 118 = .ok (.getfield 258, 3) := by decide +kernel
theorem dX10_cluster_121 : decode cX10_cluster 121 = .ok (.ireturn, 1) := by decide +kernel
theorem dX10_cluster_122 : decode cX10_cluster 122 = .ok (.aload_n 0, 1) := by decide +kernel
theorem dX10_cluster_123 : decode cX10_cluster 123 = .ok (.getfield 70, 3) := by decide +kernel
theorem dX10_cluster_126 : decode cX10_cluster 126 = .ok (.getfield 261, 3) := by decide +kernel
theorem dX10_cluster_129 : decode cX10_cluster 129 = .ok (.ireturn, 1) := by decide +kernel
theorem dX10_cluster_130 : decode cX10_cluster 130 = .ok (.aload_n 0, 1) := by decide +kernel
theorem dX10_cluster_131 : decode cX10_cluster 131 = .ok (.getfield 70, 3) := by decide +kernel
theorem dX10_cluster_134 : decode cX10_cluster 134 = .ok (.getfield 264, 3) := by decide +kernel
theorem dX10_cluster_137 : decode cX10_cluster 137 = .ok (.ireturn, 1) := by decide +kernel
theorem dX10_cluster_138 : decode cX10_cluster 138 = .ok (.aload_n 0, 1) := by decide +kernel
theorem dX10_cluster_139 : decode cX10_cluster 139 = .ok (.getfield 70, 3) := by decide +kernel
theorem dX10_cluster_142 : decode cX10_cluster 142 = .ok (.getfield 267, 3) := by decide +kernel
theorem dX10_cluster_145 : decode cX10_cluster 145 = .ok (.ireturn, 1) := by decide +kernel
theorem dX10_cluster_146 : decode cX10_cluster 146 = .ok (.aload_n 0, 1) := by decide +kernel
theorem dX10_cluster_147 : decode cX10_cluster 147 = .ok (.getfield 60, 3) := by decide +kernel
theorem dX10_cluster_150 : decode cX10_cluster 150 = .ok (.getfield 270, 3) := by decide +kernel
theorem dX10_cluster_153 : decode cX10_cluster 153 = .ok (.iload_n 2, 1) := by decide +kernel
theorem dX10_cluster_154 : decode cX10_cluster 154 = .ok (.invokevirtual 199, 3) := by decide +kernel
theorem dX10_cluster_157 : decode cX10_cluster 157 = .ok (.ireturn, 1) := by decide +kernel
set_option maxRecDepth 100000 in
theorem sp_X10_cluster (G : MG) (hG : (g_l G).stackTraces = false) (d : Nat) (hd : 9 ≤ d)   (σ : MsSt) (l0 : Nat) (l1 : Int32) (l2 : Int32) (l3 : Int32) (h0 : ms_kd l0 = 11) : MsSpec G mX10_cluster d 3 18 [.ref l0, .int l1, .int l2, .int l3] σ ms_ui (f_X10_cluster σ l0 l1 l2 l3) := by
  refine ms_start (by decide +kernel) rfl rfl (Nat.le_of_ble_eq_true rfl) ?_
  show TrO G mX10_cluster d 3 18 0 0 ms_ui 0 [(0, .ref l0), (1, .int l1), (2, .int l2), (3, .int l3)] [] σ (ms_bu (f_X10_needCluster σ l0 l1 l2) (fun s2 => ms_bt (f_X10_needIn s2 l3 0 8) ((f_X0_lay s2 (ms_rf l0 8) (ms_rf l0 6) l2).bind fun s4 => if l3 = 0 then (f_X5_get s4 (ms_rf (ms_rf l0 6) 5) l2).bind fun v6 => some (.inl v6, s4) else if l3 = 1 then (f_X1_marksIn s4 (ms_rf l0 6) l2).bind fun v7 => some (.inl v7, s4) else if l3 = 2 then (f_X5_get s4 (ms_rf (ms_rf l0 6) 4) l2).bind fun v8 => some (.inl v8, s4) else if l3 = 3 then (f_X1_penOf s4 (ms_rf l0 6) l2).bind fun v9 => some (.inl v9, s4) else if l3 = 4 then some (.inl (ms_i s4 (ms_rf l0 8) 8), s4) else if l3 = 5 then some (.inl (ms_i s4 (ms_rf l0 8) 9), s4) else if l3 = 6 then some (.inl (ms_i s4 (ms_rf l0 8) 10), s4) else if l3 = 7 then some (.inl (ms_i s4 (ms_rf l0 8) 11), s4) else (f_X5_get s4 (ms_rf (ms_rf l0 6) 6) l2).bind fun v5 => some (.inl v5, s4)) (fun e3 => some (.inr e3, s2))) (fun e1 s2 => some (.inr e1, s2)))
  refine tr_aload_n (i := 0) dX10_cluster_0 rfl ?_
  refine tr_iload_n (i := 1) dX10_cluster_1 rfl ?_
  refine tr_iload_n (i := 2) dX10_cluster_2 rfl ?_
  refine tr_d_uv (ms_cV (rest := []) (al := [.int l1, .int l2]) 10 (sp_X10_needCluster G hG (d - 1) (by omega) σ l0 l1 l2 h0) h0 (by decide +kernel) kl_X10_245 fv_X10_needCluster dX10_cluster_3 (show _ = some 2 by decide +kernel) (by omega) (Nat.le_of_ble_eq_true rfl) (by decide) (by decide)) rfl (by decide) (by decide) (fun s2 => ?_) (fun e0 s0 r h => by cases h; rfl)
  refine tr_iload_n (i := 3) dX10_cluster_6 rfl ?_
  refine tr_iconst (v := 0) dX10_cluster_7 (by decide +kernel) ?_
  refine tr_bipush (v := 8) dX10_cluster_8 (by decide +kernel) ?_
  refine tr_d_tv (ms_cS (rest := []) (al := [.int l3, .int 0, .int 8]) (sp_X10_needIn G hG (d - 1) (by omega) s2 l3 0 8) kl_X10_128 fs_X10_needIn dX10_cluster_10 (show _ = some 3 by decide +kernel) (by omega) (Nat.le_of_ble_eq_true rfl) (by decide) (by decide)) rfl (by decide) (by decide) ?_ (fun e0 r h => by cases h; rfl)
  refine tr_aload_n (i := 0) dX10_cluster_13 rfl ?_
  refine tr_getR 10 h0 fl_X10_70 (by decide +kernel) dX10_cluster_14 ?_
  refine tr_aload_n (i := 0) dX10_cluster_17 rfl ?_
  refine tr_getR 10 h0 fl_X10_60 (by decide +kernel) dX10_cluster_18 ?_
  refine tr_iload_n (i := 2) dX10_cluster_21 rfl ?_
  refine tr_c_wv (ms_cV (rest := []) (al := [.ref (ms_rf l0 6), .int l2]) 0 (sp_X0_lay G hG (d - 1) (by omega) s2 (ms_rf l0 8) (ms_rf l0 6) l2 (rk_10_8 h0) (rk_10_6 h0)) (rk_10_8 h0) (by decide +kernel) kl_X10_248 fv_X0_lay dX10_cluster_22 (show _ = some 2 by decide +kernel) (by omega) (Nat.le_of_ble_eq_true rfl) (by decide) (by decide)) (fun s4 => ?_)
  refine tr_iload_n (i := 3) dX10_cluster_25 rfl ?_
  refine tr_tsIn (tgt := 72) (off := 46) 0 dX10_cluster_26 (by decide +kernel) (by decide +kernel) (by decide +kernel) (by decide) ?_ (fun n0 => ?_)
  · refine tr_aload_n (i := 0) dX10_cluster_72 rfl ?_
    refine tr_getR 10 h0 fl_X10_60 (by decide +kernel) dX10_cluster_73 ?_
    refine tr_getR 1 (rk_10_6 h0) fl_X10_252 (by decide +kernel) dX10_cluster_76 ?_
    refine tr_iload_n (i := 2) dX10_cluster_79 rfl ?_
    refine tr_c_i (ms_cV (rest := []) (al := [.int l2]) 5 (sp_X5_get G hG (d - 1) (by omega) s4 (ms_rf (ms_rf l0 6) 5) l2 (rk_1_5 (rk_10_6 h0))) (rk_1_5 (rk_10_6 h0)) (by decide +kernel) kl_X10_199 fv_X5_get dX10_cluster_80 (show _ = some 1 by decide +kernel) (by omega) (Nat.le_of_ble_eq_true rfl) (by decide) (by decide)) (fun v6 => ?_)
    exact tr_iret rfl rfl (by decide) (by decide) dX10_cluster_83
  refine tr_tsIn (tgt := 84) (off := 58) 1 dX10_cluster_26 (by decide +kernel) (by decide +kernel) (by decide +kernel) (by decide) ?_ (fun n1 => ?_)
  · refine tr_aload_n (i := 0) dX10_cluster_84 rfl ?_
    refine tr_getR 10 h0 fl_X10_60 (by decide +kernel) dX10_cluster_85 ?_
    refine tr_iload_n (i := 2) dX10_cluster_88 rfl ?_
    refine tr_c_i (ms_cV (rest := []) (al := [.int l2]) 1 (sp_X1_marksIn G hG (d - 1) (by omega) s4 (ms_rf l0 6) l2 (rk_10_6 h0)) (rk_10_6 h0) (by decide +kernel) kl_X10_255 fv_X1_marksIn dX10_cluster_89 (show _ = some 1 by decide +kernel) (by omega) (Nat.le_of_ble_eq_true rfl) (by decide) (by decide)) (fun v7 => ?_)
    exact tr_iret rfl rfl (by decide) (by decide) dX10_cluster_92
  refine tr_tsIn (tgt := 93) (off := 67) 2 dX10_cluster_26 (by decide +kernel) (by decide +kernel) (by decide +kernel) (by decide) ?_ (fun n2 => ?_)
  · refine tr_aload_n (i := 0) dX10_cluster_93 rfl ?_
    refine tr_getR 10 h0 fl_X10_60 (by decide +kernel) dX10_cluster_94 ?_
    refine tr_getR 1 (rk_10_6 h0) fl_X10_218 (by decide +kernel) dX10_cluster_97 ?_
    refine tr_iload_n (i := 2) dX10_cluster_100 rfl ?_
    refine tr_c_i (ms_cV (rest := []) (al := [.int l2]) 5 (sp_X5_get G hG (d - 1) (by omega) s4 (ms_rf (ms_rf l0 6) 4) l2 (rk_1_4 (rk_10_6 h0))) (rk_1_4 (rk_10_6 h0)) (by decide +kernel) kl_X10_199 fv_X5_get dX10_cluster_101 (show _ = some 1 by decide +kernel) (by omega) (Nat.le_of_ble_eq_true rfl) (by decide) (by decide)) (fun v8 => ?_)
    exact tr_iret rfl rfl (by decide) (by decide) dX10_cluster_104
  refine tr_tsIn (tgt := 105) (off := 79) 3 dX10_cluster_26 (by decide +kernel) (by decide +kernel) (by decide +kernel) (by decide) ?_ (fun n3 => ?_)
  · refine tr_aload_n (i := 0) dX10_cluster_105 rfl ?_
    refine tr_getR 10 h0 fl_X10_60 (by decide +kernel) dX10_cluster_106 ?_
    refine tr_iload_n (i := 2) dX10_cluster_109 rfl ?_
    refine tr_c_i (ms_cV (rest := []) (al := [.int l2]) 1 (sp_X1_penOf G hG (d - 1) (by omega) s4 (ms_rf l0 6) l2 (rk_10_6 h0)) (rk_10_6 h0) (by decide +kernel) kl_X10_221 fv_X1_penOf dX10_cluster_110 (show _ = some 1 by decide +kernel) (by omega) (Nat.le_of_ble_eq_true rfl) (by decide) (by decide)) (fun v9 => ?_)
    exact tr_iret rfl rfl (by decide) (by decide) dX10_cluster_113
  refine tr_tsIn (tgt := 114) (off := 88) 4 dX10_cluster_26 (by decide +kernel) (by decide +kernel) (by decide +kernel) (by decide) ?_ (fun n4 => ?_)
  · refine tr_aload_n (i := 0) dX10_cluster_114 rfl ?_
    refine tr_getR 10 h0 fl_X10_70 (by decide +kernel) dX10_cluster_115 ?_
    refine tr_getI 0 (rk_10_8 h0) fl_X10_258 (by decide +kernel) dX10_cluster_118 ?_
    exact tr_iret rfl rfl (by decide) (by decide) dX10_cluster_121
  refine tr_tsIn (tgt := 122) (off := 96) 5 dX10_cluster_26 (by decide +kernel) (by decide +kernel) (by decide +kernel) (by decide) ?_ (fun n5 => ?_)
  · refine tr_aload_n (i := 0) dX10_cluster_122 rfl ?_
    refine tr_getR 10 h0 fl_X10_70 (by decide +kernel) dX10_cluster_123 ?_
    refine tr_getI 0 (rk_10_8 h0) fl_X10_261 (by decide +kernel) dX10_cluster_126 ?_
    exact tr_iret rfl rfl (by decide) (by decide) dX10_cluster_129
  refine tr_tsIn (tgt := 130) (off := 104) 6 dX10_cluster_26 (by decide +kernel) (by decide +kernel) (by decide +kernel) (by decide) ?_ (fun n6 => ?_)
  · refine tr_aload_n (i := 0) dX10_cluster_130 rfl ?_
    refine tr_getR 10 h0 fl_X10_70 (by decide +kernel) dX10_cluster_131 ?_
    refine tr_getI 0 (rk_10_8 h0) fl_X10_264 (by decide +kernel) dX10_cluster_134 ?_
    exact tr_iret rfl rfl (by decide) (by decide) dX10_cluster_137
  refine tr_tsIn (tgt := 138) (off := 112) 7 dX10_cluster_26 (by decide +kernel) (by decide +kernel) (by decide +kernel) (by decide) ?_ (fun n7 => ?_)
  · refine tr_aload_n (i := 0) dX10_cluster_138 rfl ?_
    refine tr_getR 10 h0 fl_X10_70 (by decide +kernel) dX10_cluster_139 ?_
    refine tr_getI 0 (rk_10_8 h0) fl_X10_267 (by decide +kernel) dX10_cluster_142 ?_
    exact tr_iret rfl rfl (by decide) (by decide) dX10_cluster_145
  refine tr_tsOut (tgt := 146) dX10_cluster_26 ?_ (by decide) ?_
  · have q0 := lv_neT (a := 0) n0 (by decide +kernel); have q1 := lv_neT (a := 1) n1 (by decide +kernel); have q2 := lv_neT (a := 2) n2 (by decide +kernel); have q3 := lv_neT (a := 3) n3 (by decide +kernel); have q4 := lv_neT (a := 4) n4 (by decide +kernel); have q5 := lv_neT (a := 5) n5 (by decide +kernel); have q6 := lv_neT (a := 6) n6 (by decide +kernel); have q7 := lv_neT (a := 7) n7 (by decide +kernel); omega
  refine tr_aload_n (i := 0) dX10_cluster_146 rfl ?_
  refine tr_getR 10 h0 fl_X10_60 (by decide +kernel) dX10_cluster_147 ?_
  refine tr_getR 1 (rk_10_6 h0) fl_X10_270 (by decide +kernel) dX10_cluster_150 ?_
  refine tr_iload_n (i := 2) dX10_cluster_153 rfl ?_
  refine tr_c_i (ms_cV (rest := []) (al := [.int l2]) 5 (sp_X5_get G hG (d - 1) (by omega) s4 (ms_rf (ms_rf l0 6) 6) l2 (rk_1_6 (rk_10_6 h0))) (rk_1_6 (rk_10_6 h0)) (by decide +kernel) kl_X10_199 fv_X5_get dX10_cluster_154 (show _ = some 1 by decide +kernel) (by omega) (Nat.le_of_ble_eq_true rfl) (by decide) (by decide)) (fun v5 => ?_)
  exact tr_iret rfl rfl (by decide) (by decide) dX10_cluster_157
theorem dX10_box_0 : decode cX10_box 0 = .ok (.aload_n 0, 1) := by decide +kernel
theorem dX10_box_1 : decode cX10_box 1 = .ok (.iload_n 1, 1) := by decide +kernel
theorem dX10_box_2 : decode cX10_box 2 = .ok (.iload_n 2, 1) := by decide +kernel
theorem dX10_box_3 : decode cX10_box 3 = .ok (.invokevirtual 245, 3) := by decide +kernel
theorem dX10_box_6 : decode cX10_box 6 = .ok (.aload_n 0, 1) := by decide +kernel
theorem dX10_box_7 : decode cX10_box 7 = .ok (.getfield 70, 3) := by decide +kernel
theorem dX10_box_10 : decode cX10_box 10 = .ok (.aload_n 0, 1) := by decide +kernel
theorem dX10_box_11 : decode cX10_box 11 = .ok (.getfield 60, 3) := by decide +kernel
theorem dX10_box_14 : decode cX10_box 14 = .ok (.iload_n 2, 1) := by decide +kernel
theorem dX10_box_15 : decode cX10_box 15 = .ok (.invokevirtual 248, 3) := by decide +kernel
theorem dX10_box_18 : decode cX10_box 18 = .ok (.iload_n 3, 1) := by decide +kernel
theorem dX10_box_19 : decode cX10_box 19 = .ok (.iconst 0, 1) := by decide +kernel
theorem dX10_box_20 : decode cX10_box 20 = .ok (.aload_n 0, 1) := by decide +kernel
theorem dX10_box_21 : decode cX10_box 21 = .ok (.getfield 70, 3) := by decide +kernel
theorem dX10_box_24 : decode cX10_box 24 = .ok (.getfield 273, 3) := by decide +kernel
theorem dX10_box_27 : decode cX10_box 27 = .ok (.getfield 209, 3) := by decide +kernel
theorem dX10_box_30 : decode cX10_box 30 = .ok (.iconst 1, 1) := by decide +kernel
theorem dX10_box_31 : decode cX10_box 31 = .ok (.isub, 1) := by decide +kernel
theorem dX10_box_32 : decode cX10_box 32 = .ok (.invokestatic 128, 3) := by decide +kernel
theorem dX10_box_35 : decode cX10_box 35 = .ok (.iload 4, 2) := by decide +kernel
theorem dX10_box_37 : decode cX10_box 37 = .ok (.iconst 0, 1) := by decide +kernel
theorem dX10_box_38 : decode cX10_box 38 = .ok (.iconst 4, 1) := by decide +kernel
theorem dX10_box_39 : decode cX10_box 39 = .ok (.invokestatic 128, 3) := by decide +kernel
theorem dX10_box_42 : decode cX10_box 42 = .ok (.iload 4, 2) := by decide +kernel
theorem dX10_box_44 : decode cX10_box 44 = .ok (.tableswitch 80 0 3 #[32, 44, 56, 68], 32) := by decide +kernel
theorem dX10_box_76 : decode cX10_box 76 = .ok (.aload_n 0, 1) := by decide +kernel
theorem dX10_box_77 : decode cX10_box 77 = .ok (.getfield 70, 3) := by decide +kernel
theorem dX10_box_80 : decode cX10_box 80 = .ok (.getfield 273, 3) := by decide +kernel
theorem dX10_box_83 : decode cX10_box 83 = .ok (.iload_n 3, 1) := by decide +kernel
theorem dX10_box_84 : decode cX10_box 84 = .ok (.invokevirtual 199, 3) := by decide +kernel
theorem dX10_box_87 : decode cX10_box 87 = .ok (.ireturn, 1) := by decide +kernel
theorem dX10_box_88 : decode cX10_box 88 = .ok (.aload_n 0, 1) := by decide +kernel
theorem dX10_box_89 : decode cX10_box 89 = .ok (.getfield 70, 3) := by decide +kernel
theorem dX10_box_92 : decode cX10_box 92 = .ok (.getfield 276, 3) := by decide +kernel
theorem dX10_box_95 : decode cX10_box 95 = .ok (.iload_n 3, 1) := by decide +kernel
theorem dX10_box_96 : decode cX10_box 96 = .ok (.invokevirtual 199, 3) := by decide +kernel
theorem dX10_box_99 : decode cX10_box 99 = .ok (.ireturn, 1) := by decide +kernel
theorem dX10_box_100 : decode cX10_box 100 = .ok (.aload_n 0, 1) := by decide +kernel
theorem dX10_box_101 : decode cX10_box 101 = .ok (.getfield 70, 3) := by decide +kernel
theorem dX10_box_104 : decode cX10_box 104 = .ok (.getfield 279, 3) := by decide +kernel
theorem dX10_box_107 : decode cX10_box 107 = .ok (.iload_n 3, 1) := by decide +kernel
theorem dX10_box_108 : decode cX10_box 108 = .ok (.invokevirtual 199, 3) := by decide +kernel
theorem dX10_box_111 : decode cX10_box 111 = .ok (.ireturn, 1) := by decide +kernel
theorem dX10_box_112 : decode cX10_box 112 = .ok (.aload_n 0, 1) := by decide +kernel
theorem dX10_box_113 : decode cX10_box 113 = .ok (.getfield 70, 3) := by decide +kernel
theorem dX10_box_116 : decode cX10_box 116 = .ok (.getfield 282, 3) := by decide +kernel
theorem dX10_box_119 : decode cX10_box 119 = .ok (.iload_n 3, 1) := by decide +kernel
theorem dX10_box_120 : decode cX10_box 120 = .ok (.invokevirtual 199, 3) := by decide +kernel
theorem dX10_box_123 : decode cX10_box 123 = .ok (.ireturn, 1) := by decide +kernel
theorem dX10_box_124 : decode cX10_box 124 = .ok (.aload_n 0, 1) := by decide +kernel
theorem dX10_box_125 : decode cX10_box 125 = .ok (.getfield 70, 3) := by decide +kernel
theorem dX10_box_128 : decode cX10_box 128 = .ok (.getfield 285, 3) := by decide +kernel
theorem dX10_box_131 : decode cX10_box 131 = .ok (.iload_n 3, 1) := by decide +kernel
theorem dX10_box_132 : decode cX10_box 132 = .ok (.invokevirtual 199, 3) := by decide +kernel
theorem dX10_box_135 : decode cX10_box 135 = .ok (.ireturn, 1) := by decide +kernel
set_option maxRecDepth 100000 in
theorem sp_X10_box (G : MG) (hG : (g_l G).stackTraces = false) (d : Nat) (hd : 9 ≤ d)   (σ : MsSt) (l0 : Nat) (l1 : Int32) (l2 : Int32) (l3 : Int32) (l4 : Int32) (h0 : ms_kd l0 = 11) : MsSpec G mX10_box d 4 24 [.ref l0, .int l1, .int l2, .int l3, .int l4] σ ms_ui (f_X10_box σ l0 l1 l2 l3 l4) := by
  refine ms_start (by decide +kernel) rfl rfl (Nat.le_of_ble_eq_true rfl) ?_
  show TrO G mX10_box d 4 24 0 0 ms_ui 0 [(0, .ref l0), (1, .int l1), (2, .int l2), (3, .int l3), (4, .int l4)] [] σ (ms_bu (f_X10_needCluster σ l0 l1 l2) (fun s2 => (f_X0_lay s2 (ms_rf l0 8) (ms_rf l0 6) l2).bind fun s3 => ms_bt (f_X10_needIn s3 l3 0 ((ms_i s3 (ms_rf (ms_rf l0 8) 1) 1) - 1)) (ms_bt (f_X10_needIn s3 l4 0 4) (if l4 = 0 then (f_X5_get s3 (ms_rf (ms_rf l0 8) 1) l3).bind fun v7 => some (.inl v7, s3) else if l4 = 1 then (f_X5_get s3 (ms_rf (ms_rf l0 8) 2) l3).bind fun v8 => some (.inl v8, s3) else if l4 = 2 then (f_X5_get s3 (ms_rf (ms_rf l0 8) 3) l3).bind fun v9 => some (.inl v9, s3) else if l4 = 3 then (f_X5_get s3 (ms_rf (ms_rf l0 8) 4) l3).bind fun v10 => some (.inl v10, s3) else (f_X5_get s3 (ms_rf (ms_rf l0 8) 5) l3).bind fun v6 => some (.inl v6, s3)) (fun e5 => some (.inr e5, s3))) (fun e4 => some (.inr e4, s3))) (fun e1 s2 => some (.inr e1, s2)))
  refine tr_aload_n (i := 0) dX10_box_0 rfl ?_
  refine tr_iload_n (i := 1) dX10_box_1 rfl ?_
  refine tr_iload_n (i := 2) dX10_box_2 rfl ?_
  refine tr_d_uv (ms_cV (rest := []) (al := [.int l1, .int l2]) 10 (sp_X10_needCluster G hG (d - 1) (by omega) σ l0 l1 l2 h0) h0 (by decide +kernel) kl_X10_245 fv_X10_needCluster dX10_box_3 (show _ = some 2 by decide +kernel) (by omega) (Nat.le_of_ble_eq_true rfl) (by decide) (by decide)) rfl (by decide) (by decide) (fun s2 => ?_) (fun e0 s0 r h => by cases h; rfl)
  refine tr_aload_n (i := 0) dX10_box_6 rfl ?_
  refine tr_getR 10 h0 fl_X10_70 (by decide +kernel) dX10_box_7 ?_
  refine tr_aload_n (i := 0) dX10_box_10 rfl ?_
  refine tr_getR 10 h0 fl_X10_60 (by decide +kernel) dX10_box_11 ?_
  refine tr_iload_n (i := 2) dX10_box_14 rfl ?_
  refine tr_c_wv (ms_cV (rest := []) (al := [.ref (ms_rf l0 6), .int l2]) 0 (sp_X0_lay G hG (d - 1) (by omega) s2 (ms_rf l0 8) (ms_rf l0 6) l2 (rk_10_8 h0) (rk_10_6 h0)) (rk_10_8 h0) (by decide +kernel) kl_X10_248 fv_X0_lay dX10_box_15 (show _ = some 2 by decide +kernel) (by omega) (Nat.le_of_ble_eq_true rfl) (by decide) (by decide)) (fun s3 => ?_)
  refine tr_iload_n (i := 3) dX10_box_18 rfl ?_
  refine tr_iconst (v := 0) dX10_box_19 (by decide +kernel) ?_
  refine tr_aload_n (i := 0) dX10_box_20 rfl ?_
  refine tr_getR 10 h0 fl_X10_70 (by decide +kernel) dX10_box_21 ?_
  refine tr_getR 0 (rk_10_8 h0) fl_X10_273 (by decide +kernel) dX10_box_24 ?_
  refine tr_getI 5 (rk_0_1 (rk_10_8 h0)) fl_X10_209 (by decide +kernel) dX10_box_27 ?_
  refine tr_iconst (v := 1) dX10_box_30 (by decide +kernel) ?_
  refine tr_isub dX10_box_31 ?_
  refine tr_d_tv (ms_cS (rest := []) (al := [.int l3, .int 0, .int ((ms_i s3 (ms_rf (ms_rf l0 8) 1) 1) - 1)]) (sp_X10_needIn G hG (d - 1) (by omega) s3 l3 0 ((ms_i s3 (ms_rf (ms_rf l0 8) 1) 1) - 1)) kl_X10_128 fs_X10_needIn dX10_box_32 (show _ = some 3 by decide +kernel) (by omega) (Nat.le_of_ble_eq_true rfl) (by decide) (by decide)) rfl (by decide) (by decide) ?_ (fun e0 r h => by cases h; rfl)
  refine tr_iload (i := 4) dX10_box_35 rfl ?_
  refine tr_iconst (v := 0) dX10_box_37 (by decide +kernel) ?_
  refine tr_iconst (v := 4) dX10_box_38 (by decide +kernel) ?_
  refine tr_d_tv (ms_cS (rest := []) (al := [.int l4, .int 0, .int 4]) (sp_X10_needIn G hG (d - 1) (by omega) s3 l4 0 4) kl_X10_128 fs_X10_needIn dX10_box_39 (show _ = some 3 by decide +kernel) (by omega) (Nat.le_of_ble_eq_true rfl) (by decide) (by decide)) rfl (by decide) (by decide) ?_ (fun e0 r h => by cases h; rfl)
  refine tr_iload (i := 4) dX10_box_42 rfl ?_
  refine tr_tsIn (tgt := 76) (off := 32) 0 dX10_box_44 (by decide +kernel) (by decide +kernel) (by decide +kernel) (by decide) ?_ (fun n0 => ?_)
  · refine tr_aload_n (i := 0) dX10_box_76 rfl ?_
    refine tr_getR 10 h0 fl_X10_70 (by decide +kernel) dX10_box_77 ?_
    refine tr_getR 0 (rk_10_8 h0) fl_X10_273 (by decide +kernel) dX10_box_80 ?_
    refine tr_iload_n (i := 3) dX10_box_83 rfl ?_
    refine tr_c_i (ms_cV (rest := []) (al := [.int l3]) 5 (sp_X5_get G hG (d - 1) (by omega) s3 (ms_rf (ms_rf l0 8) 1) l3 (rk_0_1 (rk_10_8 h0))) (rk_0_1 (rk_10_8 h0)) (by decide +kernel) kl_X10_199 fv_X5_get dX10_box_84 (show _ = some 1 by decide +kernel) (by omega) (Nat.le_of_ble_eq_true rfl) (by decide) (by decide)) (fun v7 => ?_)
    exact tr_iret rfl rfl (by decide) (by decide) dX10_box_87
  refine tr_tsIn (tgt := 88) (off := 44) 1 dX10_box_44 (by decide +kernel) (by decide +kernel) (by decide +kernel) (by decide) ?_ (fun n1 => ?_)
  · refine tr_aload_n (i := 0) dX10_box_88 rfl ?_
    refine tr_getR 10 h0 fl_X10_70 (by decide +kernel) dX10_box_89 ?_
    refine tr_getR 0 (rk_10_8 h0) fl_X10_276 (by decide +kernel) dX10_box_92 ?_
    refine tr_iload_n (i := 3) dX10_box_95 rfl ?_
    refine tr_c_i (ms_cV (rest := []) (al := [.int l3]) 5 (sp_X5_get G hG (d - 1) (by omega) s3 (ms_rf (ms_rf l0 8) 2) l3 (rk_0_2 (rk_10_8 h0))) (rk_0_2 (rk_10_8 h0)) (by decide +kernel) kl_X10_199 fv_X5_get dX10_box_96 (show _ = some 1 by decide +kernel) (by omega) (Nat.le_of_ble_eq_true rfl) (by decide) (by decide)) (fun v8 => ?_)
    exact tr_iret rfl rfl (by decide) (by decide) dX10_box_99
  refine tr_tsIn (tgt := 100) (off := 56) 2 dX10_box_44 (by decide +kernel) (by decide +kernel) (by decide +kernel) (by decide) ?_ (fun n2 => ?_)
  · refine tr_aload_n (i := 0) dX10_box_100 rfl ?_
    refine tr_getR 10 h0 fl_X10_70 (by decide +kernel) dX10_box_101 ?_
    refine tr_getR 0 (rk_10_8 h0) fl_X10_279 (by decide +kernel) dX10_box_104 ?_
    refine tr_iload_n (i := 3) dX10_box_107 rfl ?_
    refine tr_c_i (ms_cV (rest := []) (al := [.int l3]) 5 (sp_X5_get G hG (d - 1) (by omega) s3 (ms_rf (ms_rf l0 8) 3) l3 (rk_0_3 (rk_10_8 h0))) (rk_0_3 (rk_10_8 h0)) (by decide +kernel) kl_X10_199 fv_X5_get dX10_box_108 (show _ = some 1 by decide +kernel) (by omega) (Nat.le_of_ble_eq_true rfl) (by decide) (by decide)) (fun v9 => ?_)
    exact tr_iret rfl rfl (by decide) (by decide) dX10_box_111
  refine tr_tsIn (tgt := 112) (off := 68) 3 dX10_box_44 (by decide +kernel) (by decide +kernel) (by decide +kernel) (by decide) ?_ (fun n3 => ?_)
  · refine tr_aload_n (i := 0) dX10_box_112 rfl ?_
    refine tr_getR 10 h0 fl_X10_70 (by decide +kernel) dX10_box_113 ?_
    refine tr_getR 0 (rk_10_8 h0) fl_X10_282 (by decide +kernel) dX10_box_116 ?_
    refine tr_iload_n (i := 3) dX10_box_119 rfl ?_
    refine tr_c_i (ms_cV (rest := []) (al := [.int l3]) 5 (sp_X5_get G hG (d - 1) (by omega) s3 (ms_rf (ms_rf l0 8) 4) l3 (rk_0_4 (rk_10_8 h0))) (rk_0_4 (rk_10_8 h0)) (by decide +kernel) kl_X10_199 fv_X5_get dX10_box_120 (show _ = some 1 by decide +kernel) (by omega) (Nat.le_of_ble_eq_true rfl) (by decide) (by decide)) (fun v10 => ?_)
    exact tr_iret rfl rfl (by decide) (by decide) dX10_box_123
  refine tr_tsOut (tgt := 124) dX10_box_44 ?_ (by decide) ?_
  · have q0 := lv_neT (a := 0) n0 (by decide +kernel); have q1 := lv_neT (a := 1) n1 (by decide +kernel); have q2 := lv_neT (a := 2) n2 (by decide +kernel); have q3 := lv_neT (a := 3) n3 (by decide +kernel); omega
  refine tr_aload_n (i := 0) dX10_box_124 rfl ?_
  refine tr_getR 10 h0 fl_X10_70 (by decide +kernel) dX10_box_125 ?_
  refine tr_getR 0 (rk_10_8 h0) fl_X10_285 (by decide +kernel) dX10_box_128 ?_
  refine tr_iload_n (i := 3) dX10_box_131 rfl ?_
  refine tr_c_i (ms_cV (rest := []) (al := [.int l3]) 5 (sp_X5_get G hG (d - 1) (by omega) s3 (ms_rf (ms_rf l0 8) 5) l3 (rk_0_5 (rk_10_8 h0))) (rk_0_5 (rk_10_8 h0)) (by decide +kernel) kl_X10_199 fv_X5_get dX10_box_132 (show _ = some 1 by decide +kernel) (by omega) (Nat.le_of_ble_eq_true rfl) (by decide) (by decide)) (fun v6 => ?_)
  exact tr_iret rfl rfl (by decide) (by decide) dX10_box_135
theorem dX10_spellings_0 : decode cX10_spellings 0 = .ok (.aload_n 0, 1) := by decide +kernel
theorem dX10_spellings_1 : decode cX10_spellings 1 = .ok (.iload_n 1, 1) := by decide +kernel
theorem dX10_spellings_2 : decode cX10_spellings 2 = .ok (.iload_n 2, 1) := by decide +kernel
theorem dX10_spellings_3 : decode cX10_spellings 3 = .ok (.invokevirtual 245, 3) := by decide +kernel
theorem dX10_spellings_6 : decode cX10_spellings 6 = .ok (.aload_n 0, 1) := by decide +kernel
theorem dX10_spellings_7 : decode cX10_spellings 7 = .ok (.getfield 60, 3) := by decide +kernel
theorem dX10_spellings_10 : decode cX10_spellings 10 = .ok (.iload_n 2, 1) := by decide +kernel
theorem dX10_spellings_11 : decode cX10_spellings 11 = .ok (.invokevirtual 255, 3) := by decide +kernel
theorem dX10_spellings_14 : decode cX10_spellings 14 = .ok (.bipush 18, 2) := by decide +kernel
theorem dX10_spellings_16 : decode cX10_spellings 16 = .ok (.if_icmp .le 7, 3) := by decide +kernel
theorem dX10_spellings_19 : decode cX10_spellings 19 = .ok (.ldc2_w 288, 3) := by decide +kernel
theorem dX10_spellings_22 : decode cX10_spellings 22 = .ok (.lreturn, 1) := by decide +kernel
theorem dX10_spellings_23 : decode cX10_spellings 23 = .ok (.aload_n 0, 1) := by decide +kernel
theorem dX10_spellings_24 : decode cX10_spellings 24 = .ok (.getfield 60, 3) := by decide +kernel
theorem dX10_spellings_27 : decode cX10_spellings 27 = .ok (.iload_n 2, 1) := by decide +kernel
theorem dX10_spellings_28 : decode cX10_spellings 28 = .ok (.invokevirtual 290, 3) := by decide +kernel
theorem dX10_spellings_31 : decode cX10_spellings 31 = .ok (.lreturn, 1) := by decide +kernel
set_option maxRecDepth 100000 in
theorem sp_X10_spellings (G : MG) (hG : (g_l G).stackTraces = false) (d : Nat) (hd : 9 ≤ d)   (σ : MsSt) (l0 : Nat) (l1 : Int32) (l2 : Int32) (h0 : ms_kd l0 = 11) : MsSpec G mX10_spellings d 2 12 [.ref l0, .int l1, .int l2] σ ms_uj (f_X10_spellings σ l0 l1 l2) := by
  refine ms_start (by decide +kernel) rfl rfl (Nat.le_of_ble_eq_true rfl) ?_
  show TrO G mX10_spellings d 2 12 0 0 ms_uj 0 [(0, .ref l0), (1, .int l1), (2, .int l2)] [] σ (ms_bu (f_X10_needCluster σ l0 l1 l2) (fun s2 => (f_X1_marksIn s2 (ms_rf l0 6) l2).bind fun v3 => if 18 < v3 then some (.inl (-2), s2) else (f_X1_countOrders s2 (ms_rf l0 6) l2).bind fun v4 => some (.inl v4, s2)) (fun e1 s2 => some (.inr e1, s2)))
  refine tr_aload_n (i := 0) dX10_spellings_0 rfl ?_
  refine tr_iload_n (i := 1) dX10_spellings_1 rfl ?_
  refine tr_iload_n (i := 2) dX10_spellings_2 rfl ?_
  refine tr_d_uv (ms_cV (rest := []) (al := [.int l1, .int l2]) 10 (sp_X10_needCluster G hG (d - 1) (by omega) σ l0 l1 l2 h0) h0 (by decide +kernel) kl_X10_245 fv_X10_needCluster dX10_spellings_3 (show _ = some 2 by decide +kernel) (by omega) (Nat.le_of_ble_eq_true rfl) (by decide) (by decide)) rfl (by decide) (by decide) (fun s2 => ?_) (fun e0 s0 r h => by cases h; rfl)
  refine tr_aload_n (i := 0) dX10_spellings_6 rfl ?_
  refine tr_getR 10 h0 fl_X10_60 (by decide +kernel) dX10_spellings_7 ?_
  refine tr_iload_n (i := 2) dX10_spellings_10 rfl ?_
  refine tr_c_i (ms_cV (rest := []) (al := [.int l2]) 1 (sp_X1_marksIn G hG (d - 1) (by omega) s2 (ms_rf l0 6) l2 (rk_10_6 h0)) (rk_10_6 h0) (by decide +kernel) kl_X10_255 fv_X1_marksIn dX10_spellings_11 (show _ = some 1 by decide +kernel) (by omega) (Nat.le_of_ble_eq_true rfl) (by decide) (by decide)) (fun v3 => ?_)
  refine tr_bipush (v := 18) dX10_spellings_14 (by decide +kernel) ?_
  refine tr_icle (o := none) (tgt := 23) dX10_spellings_16 (by decide) ?_ ?_
  · refine tr_aload_n (i := 0) dX10_spellings_23 rfl ?_
    refine tr_getR 10 h0 fl_X10_60 (by decide +kernel) dX10_spellings_24 ?_
    refine tr_iload_n (i := 2) dX10_spellings_27 rfl ?_
    refine tr_c_j (ms_cV (rest := []) (al := [.int l2]) 1 (sp_X1_countOrders G hG (d - 1) (by omega) s2 (ms_rf l0 6) l2 (rk_10_6 h0)) (rk_10_6 h0) (by decide +kernel) kl_X10_290 fv_X1_countOrders dX10_spellings_28 (show _ = some 1 by decide +kernel) (by omega) (Nat.le_of_ble_eq_true rfl) (by decide) (by decide)) (fun v4 => ?_)
    exact tr_lret rfl rfl (by decide) (by decide) dX10_spellings_31
  · refine tr_ldcl (v := (-2)) (List.mem_of_getElem? (i := 1290) (by decide +kernel)) dX10_spellings_19 ?_
    exact tr_lret rfl rfl (by decide) (by decide) dX10_spellings_22
theorem dX10_clashes_0 : decode cX10_clashes 0 = .ok (.aload_n 0, 1) := by decide +kernel
theorem dX10_clashes_1 : decode cX10_clashes 1 = .ok (.iload_n 1, 1) := by decide +kernel
theorem dX10_clashes_2 : decode cX10_clashes 2 = .ok (.iload_n 2, 1) := by decide +kernel
theorem dX10_clashes_3 : decode cX10_clashes 3 = .ok (.invokevirtual 245, 3) := by decide +kernel
theorem dX10_clashes_6 : decode cX10_clashes 6 = .ok (.iload_n 2, 1) := by decide +kernel
theorem dX10_clashes_7 : decode cX10_clashes 7 = .ok (.iconst 0, 1) := by decide +kernel
theorem dX10_clashes_8 : decode cX10_clashes 8 = .ok (.aload_n 0, 1) := by decide +kernel
theorem dX10_clashes_9 : decode cX10_clashes 9 = .ok (.getfield 60, 3) := by decide +kernel
theorem dX10_clashes_12 : decode cX10_clashes 12 = .ok (.getfield 218, 3) := by decide +kernel
theorem dX10_clashes_15 : decode cX10_clashes 15 = .ok (.getfield 209, 3) := by decide +kernel
theorem dX10_clashes_18 : decode cX10_clashes 18 = .ok (.iconst 2, 1) := by decide +kernel
theorem dX10_clashes_19 : decode cX10_clashes 19 = .ok (.isub, 1) := by decide +kernel
theorem dX10_clashes_20 : decode cX10_clashes 20 = .ok (.invokestatic 128, 3) := by decide +kernel
theorem dX10_clashes_23 : decode cX10_clashes 23 = .ok (.aload_n 0, 1) := by decide +kernel
theorem dX10_clashes_24 : decode cX10_clashes 24 = .ok (.iload_n 2, 1) := by decide +kernel
theorem dX10_clashes_25 : decode cX10_clashes 25 = .ok (.invokevirtual 294, 3) := by decide +kernel
theorem dX10_clashes_28 : decode cX10_clashes 28 = .ok (.ireturn, 1) := by decide +kernel
set_option maxRecDepth 100000 in
theorem sp_X10_clashes (G : MG) (hG : (g_l G).stackTraces = false) (d : Nat) (hd : 9 ≤ d)   (σ : MsSt) (l0 : Nat) (l1 : Int32) (l2 : Int32) (h0 : ms_kd l0 = 11) : MsSpec G mX10_clashes d 3 18 [.ref l0, .int l1, .int l2] σ ms_ui (f_X10_clashes σ l0 l1 l2) := by
  refine ms_start (by decide +kernel) rfl rfl (Nat.le_of_ble_eq_true rfl) ?_
  show TrO G mX10_clashes d 3 18 0 0 ms_ui 0 [(0, .ref l0), (1, .int l1), (2, .int l2)] [] σ (ms_bu (f_X10_needCluster σ l0 l1 l2) (fun s2 => ms_bt (f_X10_needIn s2 l2 0 ((ms_i s2 (ms_rf (ms_rf l0 6) 4) 1) - 2)) (ms_b2 (f_X10_clashesWithNext s2 l0 l2) fun v4 s5 => (ms_bz v4).bind fun v6 => some (.inl v6, s5)) (fun e3 => some (.inr e3, s2))) (fun e1 s2 => some (.inr e1, s2)))
  refine tr_aload_n (i := 0) dX10_clashes_0 rfl ?_
  refine tr_iload_n (i := 1) dX10_clashes_1 rfl ?_
  refine tr_iload_n (i := 2) dX10_clashes_2 rfl ?_
  refine tr_d_uv (ms_cV (rest := []) (al := [.int l1, .int l2]) 10 (sp_X10_needCluster G hG (d - 1) (by omega) σ l0 l1 l2 h0) h0 (by decide +kernel) kl_X10_245 fv_X10_needCluster dX10_clashes_3 (show _ = some 2 by decide +kernel) (by omega) (Nat.le_of_ble_eq_true rfl) (by decide) (by decide)) rfl (by decide) (by decide) (fun s2 => ?_) (fun e0 s0 r h => by cases h; rfl)
  refine tr_iload_n (i := 2) dX10_clashes_6 rfl ?_
  refine tr_iconst (v := 0) dX10_clashes_7 (by decide +kernel) ?_
  refine tr_aload_n (i := 0) dX10_clashes_8 rfl ?_
  refine tr_getR 10 h0 fl_X10_60 (by decide +kernel) dX10_clashes_9 ?_
  refine tr_getR 1 (rk_10_6 h0) fl_X10_218 (by decide +kernel) dX10_clashes_12 ?_
  refine tr_getI 5 (rk_1_4 (rk_10_6 h0)) fl_X10_209 (by decide +kernel) dX10_clashes_15 ?_
  refine tr_iconst (v := 2) dX10_clashes_18 (by decide +kernel) ?_
  refine tr_isub dX10_clashes_19 ?_
  refine tr_d_tv (ms_cS (rest := []) (al := [.int l2, .int 0, .int ((ms_i s2 (ms_rf (ms_rf l0 6) 4) 1) - 2)]) (sp_X10_needIn G hG (d - 1) (by omega) s2 l2 0 ((ms_i s2 (ms_rf (ms_rf l0 6) 4) 1) - 2)) kl_X10_128 fs_X10_needIn dX10_clashes_20 (show _ = some 3 by decide +kernel) (by omega) (Nat.le_of_ble_eq_true rfl) (by decide) (by decide)) rfl (by decide) (by decide) ?_ (fun e0 r h => by cases h; rfl)
  refine tr_aload_n (i := 0) dX10_clashes_23 rfl ?_
  refine tr_iload_n (i := 2) dX10_clashes_24 rfl ?_
  refine tr_d_wi (ms_cV (rest := []) (al := [.int l2]) 10 (sp_X10_clashesWithNext G hG (d - 1) (by omega) s2 l0 l2 h0) h0 (by decide +kernel) kl_X10_294 fv_X10_clashesWithNext dX10_clashes_25 (show _ = some 1 by decide +kernel) (by omega) (Nat.le_of_ble_eq_true rfl) (by decide) (by decide)) (fun v4 s5 => ?_)
  exact tr_bret rfl rfl rfl (by decide) (by decide) dX10_clashes_28
