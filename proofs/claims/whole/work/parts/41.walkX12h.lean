/-! X12: the bytecode does what the functions say (by program: wip/whole/gen) -/
theorem dX12_enter_0 : decode cX12_enter 0 = .ok (.aload_n 0, 1) := by decide +kernel
theorem dX12_enter_1 : decode cX12_enter 1 = .ok (.aload_n 0, 1) := by decide +kernel
theorem dX12_enter_2 : decode cX12_enter 2 = .ok (.getfield 387, 3) := by decide +kernel
theorem dX12_enter_5 : decode cX12_enter 5 = .ok (.bipush 6, 2) := by decide +kernel
theorem dX12_enter_7 : decode cX12_enter 7 = .ok (.if_icmp .ge 7, 3) := by decide +kernel
theorem dX12_enter_10 : decode cX12_enter 10 = .ok (.iconst 1, 1) := by decide +kernel
theorem dX12_enter_11 : decode cX12_enter 11 = .ok (.goto 4, 3) := by decide +kernel
theorem dX12_enter_14 : decode cX12_enter 14 = .ok (.iconst 0, 1) := by decide +kernel
theorem dX12_enter_15 : decode cX12_enter 15 = .ok (.iconst 3, 1) := by decide +kernel
theorem dX12_enter_16 : decode cX12_enter 16 = .ok (.invokevirtual 410, 3) := by decide +kernel
theorem dX12_enter_19 : decode cX12_enter 19 = .ok (.aload_n 0, 1) := by decide +kernel
theorem dX12_enter_20 : decode cX12_enter 20 = .ok (.dup, 1) := by decide +kernel
theorem dX12_enter_21 : decode cX12_enter 21 = .ok (.getfield 387, 3) := by decide +kernel
theorem dX12_enter_24 : decode cX12_enter 24 = .ok (.iconst 1, 1) := by decide +kernel
theorem dX12_enter_25 : decode cX12_enter 25 = .ok (.iadd, 1) := by decide +kernel
theorem dX12_enter_26 : decode cX12_enter 26 = .ok (.putfield 387, 3) := by decide +kernel
theorem dX12_enter_29 : decode cX12_enter 29 = .ok (.aload_n 0, 1) := by decide +kernel
theorem dX12_enter_30 : decode cX12_enter 30 = .ok (.invokevirtual 414, 3) := by decide +kernel
theorem dX12_enter_33 : decode cX12_enter 33 = .ok (.return_, 1) := by decide +kernel
set_option maxRecDepth 100000 in
theorem t_X12_enter_15 (G : MG) (hG : (g_l G).stackTraces = false) (d : Nat) (hd : 4 ≤ d)    (σ : MsSt) (l0 : Nat) (t0 : Int32) (t1 : Nat) (h0 : ms_kd l0 = 13) (ht1 : ms_kd t1 = 13) : TrO G mX12_enter d 0 0 0 0 ms_wv 15 [(0, .ref l0)] [.int t0, .ref t1] σ (f_X12_enter_15 σ l0 t0 t1) := by
  show TrO G mX12_enter d 0 0 0 0 ms_wv 15 [(0, .ref l0)] [.int t0, .ref t1] σ ((f_X12_check σ t1 t0 3).bind fun s1 => ms_nm (ms_si s1 l0 35 ((ms_i s1 l0 35) + 1)) fun s2 => (f_X12_advance s2 l0).bind fun s3 => some s3)
  refine tr_iconst (v := 3) dX12_enter_15 (by decide +kernel) ?_
  refine tr_c_wv (ms_cV (rest := []) (al := [.int t0, .int 3]) 12 (sp_X12_check G hG (d - 1) (by omega) σ t1 t0 3 ht1) ht1 (by decide +kernel) kl_X12_410 fv_X12_check dX12_enter_16 (show _ = some 2 by decide +kernel) (by omega) (Nat.le_of_ble_eq_true rfl) (by decide) (by decide)) (fun s1 => ?_)
  refine tr_aload_n (i := 0) dX12_enter_19 rfl ?_
  refine tr_dup dX12_enter_20 rfl ?_
  refine tr_getI 12 h0 fl_X12_387 (by decide +kernel) dX12_enter_21 ?_
  refine tr_iconst (v := 1) dX12_enter_24 (by decide +kernel) ?_
  refine tr_iadd dX12_enter_25 ?_
  refine tr_putI 12 h0 fl_X12_387 (by decide +kernel) dX12_enter_26 ?_
  refine ms_ltS (fun s2 => ?_)
  refine tr_aload_n (i := 0) dX12_enter_29 rfl ?_
  refine tr_c_wv (ms_cV (rest := []) (al := []) 12 (sp_X12_advance G hG (d - 1) (by omega) s2 l0 h0) h0 (by decide +kernel) kl_X12_414 fv_X12_advance dX12_enter_30 (show _ = some 0 by decide +kernel) (by omega) (Nat.le_of_ble_eq_true rfl) (by decide) (by decide)) (fun s3 => ?_)
  exact tr_vret rfl rfl (by decide) (by decide) dX12_enter_33
set_option maxRecDepth 100000 in
theorem sp_X12_enter (G : MG) (hG : (g_l G).stackTraces = false) (d : Nat) (hd : 4 ≤ d)   (σ : MsSt) (l0 : Nat) (h0 : ms_kd l0 = 13) : MsSpec G mX12_enter d 0 0 [.ref l0] σ ms_wv (f_X12_enter σ l0) := by
  refine ms_start (by decide +kernel) rfl rfl (Nat.le_of_ble_eq_true rfl) ?_
  show TrO G mX12_enter d 0 0 0 0 ms_wv 0 [(0, .ref l0)] [] σ (if (ms_i σ l0 35) < 6 then f_X12_enter_15 σ l0 1 l0 else f_X12_enter_15 σ l0 0 l0)
  refine tr_aload_n (i := 0) dX12_enter_0 rfl ?_
  refine tr_aload_n (i := 0) dX12_enter_1 rfl ?_
  refine tr_getI 12 h0 fl_X12_387 (by decide +kernel) dX12_enter_2 ?_
  refine tr_bipush (v := 6) dX12_enter_5 (by decide +kernel) ?_
  refine tr_icge (o := none) (tgt := 14) dX12_enter_7 (by decide) ?_ ?_
  · refine tr_iconst (v := 0) dX12_enter_14 (by decide +kernel) ?_
    exact t_X12_enter_15 G hG d hd σ l0 0 l0 h0 h0
  · refine tr_iconst (v := 1) dX12_enter_10 (by decide +kernel) ?_
    refine tr_goto (tgt := 15) dX12_enter_11 (by decide) ?_
    exact t_X12_enter_15 G hG d hd σ l0 1 l0 h0 h0
theorem dX12_compileValue_0 : decode cX12_compileValue 0 = .ok (.aload_n 0, 1) := by decide +kernel
theorem dX12_compileValue_1 : decode cX12_compileValue 1 = .ok (.getfield 384, 3) := by decide +kernel
theorem dX12_compileValue_4 : decode cX12_compileValue 4 = .ok (.ifCond .ne 11, 3) := by decide +kernel
theorem dX12_compileValue_7 : decode cX12_compileValue 7 = .ok (.aload_n 0, 1) := by decide +kernel
theorem dX12_compileValue_8 : decode cX12_compileValue 8 = .ok (.getfield 375, 3) := by decide +kernel
theorem dX12_compileValue_11 : decode cX12_compileValue 11 = .ok (.iconst 2, 1) := by decide +kernel
theorem dX12_compileValue_12 : decode cX12_compileValue 12 = .ok (.if_icmp .ne 16, 3) := by decide +kernel
theorem dX12_compileValue_15 : decode cX12_compileValue 15 = .ok (.aload_n 0, 1) := by decide +kernel
theorem dX12_compileValue_16 : decode cX12_compileValue 16 = .ok (.aload_n 0, 1) := by decide +kernel
theorem dX12_compileValue_17 : decode cX12_compileValue 17 = .ok (.iconst 0, 1) := by decide +kernel
theorem dX12_compileValue_18 : decode cX12_compileValue 18 = .ok (.sipush 9999, 3) := by decide +kernel
theorem dX12_compileValue_21 : decode cX12_compileValue 21 = .ok (.invokevirtual 451, 3) := by decide +kernel
theorem dX12_compileValue_24 : decode cX12_compileValue 24 = .ok (.invokevirtual 505, 3) := by decide +kernel
theorem dX12_compileValue_27 : decode cX12_compileValue 27 = .ok (.return_, 1) := by decide +kernel
theorem dX12_compileValue_28 : decode cX12_compileValue 28 = .ok (.iconst 0, 1) := by decide +kernel
theorem dX12_compileValue_29 : decode cX12_compileValue 29 = .ok (.istore_n 1, 1) := by decide +kernel
theorem dX12_compileValue_30 : decode cX12_compileValue 30 = .ok (.iload_n 1, 1) := by decide +kernel
theorem dX12_compileValue_31 : decode cX12_compileValue 31 = .ok (.aload_n 0, 1) := by decide +kernel
theorem dX12_compileValue_32 : decode cX12_compileValue 32 = .ok (.getfield 97, 3) := by decide +kernel
theorem dX12_compileValue_35 : decode cX12_compileValue 35 = .ok (.arraylength, 1) := by decide +kernel
theorem dX12_compileValue_36 : decode cX12_compileValue 36 = .ok (.if_icmp .ge 22, 3) := by decide +kernel
theorem dX12_compileValue_39 : decode cX12_compileValue 39 = .ok (.aload_n 0, 1) := by decide +kernel
theorem dX12_compileValue_40 : decode cX12_compileValue 40 = .ok (.aload_n 0, 1) := by decide +kernel
theorem dX12_compileValue_41 : decode cX12_compileValue 41 = .ok (.getfield 97, 3) := by decide +kernel
theorem dX12_compileValue_44 : decode cX12_compileValue 44 = .ok (.iload_n 1, 1) := by decide +kernel
theorem dX12_compileValue_45 : decode cX12_compileValue 45 = .ok (.aaload, 1) := by decide +kernel
theorem dX12_compileValue_46 : decode cX12_compileValue 46 = .ok (.invokevirtual 406, 3) := by decide +kernel
theorem dX12_compileValue_49 : decode cX12_compileValue 49 = .ok (.ifCond .ne 9, 3) := by decide +kernel
theorem dX12_compileValue_52 : decode cX12_compileValue 52 = .ok (.iinc 1 1, 3) := by decide +kernel
theorem dX12_compileValue_55 : decode cX12_compileValue 55 = .ok (.goto (-25), 3) := by decide +kernel
theorem dX12_compileValue_58 : decode cX12_compileValue 58 = .ok (.aload_n 0, 1) := by decide +kernel
theorem dX12_compileValue_59 : decode cX12_compileValue 59 = .ok (.iload_n 1, 1) := by decide +kernel
theorem dX12_compileValue_60 : decode cX12_compileValue 60 = .ok (.aload_n 0, 1) := by decide +kernel
theorem dX12_compileValue_61 : decode cX12_compileValue 61 = .ok (.getfield 97, 3) := by decide +kernel
theorem dX12_compileValue_64 : decode cX12_compileValue 64 = .ok (.arraylength, 1) := by decide +kernel
theorem dX12_compileValue_65 : decode cX12_compileValue 65 = .ok (.if_icmp .ge 7, 3) := by decide +kernel
theorem dX12_compileValue_68 : decode cX12_compileValue 68 = .ok (.iconst 1, 1) := by decide +kernel
theorem dX12_compileValue_69 : decode cX12_compileValue 69 = .ok (.goto 4, 3) := by decide +kernel
theorem dX12_compileValue_72 : decode cX12_compileValue 72 = .ok (.iconst 0, 1) := by decide +kernel
theorem dX12_compileValue_73 : decode cX12_compileValue 73 = .ok (.iconst 1, 1) := by decide +kernel
theorem dX12_compileValue_74 : decode cX12_compileValue 74 = .ok (.invokevirtual 410, 3) := by decide +kernel
theorem dX12_compileValue_77 : decode cX12_compileValue 77 = .ok (.aload_n 0, 1) := by decide +kernel
theorem dX12_compileValue_78 : decode cX12_compileValue 78 = .ok (.iconst (-1), 1) := by decide +kernel
theorem dX12_compileValue_79 : decode cX12_compileValue 79 = .ok (.iload_n 1, 1) := by decide +kernel
theorem dX12_compileValue_80 : decode cX12_compileValue 80 = .ok (.isub, 1) := by decide +kernel
theorem dX12_compileValue_81 : decode cX12_compileValue 81 = .ok (.invokevirtual 505, 3) := by decide +kernel
theorem dX12_compileValue_84 : decode cX12_compileValue 84 = .ok (.aload_n 0, 1) := by decide +kernel
theorem dX12_compileValue_85 : decode cX12_compileValue 85 = .ok (.invokevirtual 414, 3) := by decide +kernel
theorem dX12_compileValue_88 : decode cX12_compileValue 88 = .ok (.return_, 1) := by decide +kernel
set_option maxRecDepth 100000 in
theorem t_X12_compileValue_73 (G : MG) (hG : (g_l G).stackTraces = false) (d : Nat) (hd : 5 ≤ d)    (σ : MsSt) (l0 : Nat) (l1 : Int32) (t0 : Int32) (t1 : Nat) (h0 : ms_kd l0 = 13) (ht1 : ms_kd t1 = 13) : TrO G mX12_compileValue d 0 0 0 0 ms_wv 73 [(0, .ref l0), (1, .int l1)] [.int t0, .ref t1] σ (f_X12_compileValue_73 σ l0 l1 t0 t1) := by
  show TrO G mX12_compileValue d 0 0 0 0 ms_wv 73 [(0, .ref l0), (1, .int l1)] [.int t0, .ref t1] σ ((f_X12_check σ t1 t0 1).bind fun s4 => (f_X12_emit s4 l0 ((-1) - l1)).bind fun s5 => (f_X12_advance s5 l0).bind fun s6 => some s6)
  refine tr_iconst (v := 1) dX12_compileValue_73 (by decide +kernel) ?_
  refine tr_c_wv (ms_cV (rest := []) (al := [.int t0, .int 1]) 12 (sp_X12_check G hG (d - 1) (by omega) σ t1 t0 1 ht1) ht1 (by decide +kernel) kl_X12_410 fv_X12_check dX12_compileValue_74 (show _ = some 2 by decide +kernel) (by omega) (Nat.le_of_ble_eq_true rfl) (by decide) (by decide)) (fun s4 => ?_)
  refine tr_aload_n (i := 0) dX12_compileValue_77 rfl ?_
  refine tr_iconst (v := (-1)) dX12_compileValue_78 (by decide +kernel) ?_
  refine tr_iload_n (i := 1) dX12_compileValue_79 rfl ?_
  refine tr_isub dX12_compileValue_80 ?_
  refine tr_c_wv (ms_cV (rest := []) (al := [.int ((-1) - l1)]) 12 (sp_X12_emit G hG (d - 1) (by omega) s4 l0 ((-1) - l1) h0) h0 (by decide +kernel) kl_X12_505 fv_X12_emit dX12_compileValue_81 (show _ = some 1 by decide +kernel) (by omega) (Nat.le_of_ble_eq_true rfl) (by decide) (by decide)) (fun s5 => ?_)
  refine tr_aload_n (i := 0) dX12_compileValue_84 rfl ?_
  refine tr_c_wv (ms_cV (rest := []) (al := []) 12 (sp_X12_advance G hG (d - 1) (by omega) s5 l0 h0) h0 (by decide +kernel) kl_X12_414 fv_X12_advance dX12_compileValue_85 (show _ = some 0 by decide +kernel) (by omega) (Nat.le_of_ble_eq_true rfl) (by decide) (by decide)) (fun s6 => ?_)
  exact tr_vret rfl rfl (by decide) (by decide) dX12_compileValue_88
set_option maxRecDepth 100000 in
theorem t_X12_compileValue_58 (G : MG) (hG : (g_l G).stackTraces = false) (d : Nat) (hd : 5 ≤ d)    (σ : MsSt) (l0 : Nat) (l1 : Int32) (h0 : ms_kd l0 = 13) : TrO G mX12_compileValue d 0 0 0 0 ms_wv 58 [(0, .ref l0), (1, .int l1)] [] σ (f_X12_compileValue_58 σ l0 l1) := by
  show TrO G mX12_compileValue d 0 0 0 0 ms_wv 58 [(0, .ref l0), (1, .int l1)] [] σ (if l1 < (Int32.ofNat (ms_ln (ms_rf l0 37))) then f_X12_compileValue_73 σ l0 l1 1 l0 else f_X12_compileValue_73 σ l0 l1 0 l0)
  refine tr_aload_n (i := 0) dX12_compileValue_58 rfl ?_
  refine tr_iload_n (i := 1) dX12_compileValue_59 rfl ?_
  refine tr_aload_n (i := 0) dX12_compileValue_60 rfl ?_
  refine tr_getR 12 h0 fl_X12_97 (by decide +kernel) dX12_compileValue_61 ?_
  refine tr_len 7 (rk_12_37 h0) (by decide) dX12_compileValue_64 ?_
  refine tr_icge (o := none) (tgt := 72) dX12_compileValue_65 (by decide) ?_ ?_
  · refine tr_iconst (v := 0) dX12_compileValue_72 (by decide +kernel) ?_
    exact t_X12_compileValue_73 G hG d hd σ l0 l1 0 l0 h0 h0
  · refine tr_iconst (v := 1) dX12_compileValue_68 (by decide +kernel) ?_
    refine tr_goto (tgt := 73) dX12_compileValue_69 (by decide) ?_
    exact t_X12_compileValue_73 G hG d hd σ l0 l1 1 l0 h0 h0
set_option maxRecDepth 100000 in
theorem t_X12_compileValue_30 (G : MG) (hG : (g_l G).stackTraces = false) (d : Nat) (hd : 5 ≤ d)    : ∀ (n : Nat) (σ : MsSt) (l0 : Nat) (l1 : Int32) (h0 : ms_kd l0 = 13), TrO G mX12_compileValue d 0 0 0 0 ms_wv 30 [(0, .ref l0), (1, .int l1)] [] σ (f_X12_compileValue_30 n σ l0 l1) := by
  intro n
  induction n with
  | zero => exact fun _ _ _ _ => tr_none
  | succ n ih =>
    intro σ l0 l1 h0
    show TrO G mX12_compileValue d 0 0 0 0 ms_wv 30 [(0, .ref l0), (1, .int l1)] [] σ (if l1 < (Int32.ofNat (ms_ln (ms_rf l0 37))) then (ms_ala (ms_rf l0 37) l1).bind fun v7 => (f_X12_isWord σ l0 v7).bind fun v8 => if v8 = 0 then (f_X12_compileValue_30 n) σ l0 (l1 + 1) else f_X12_compileValue_58 σ l0 l1 else f_X12_compileValue_58 σ l0 l1)
    refine tr_iload_n (i := 1) dX12_compileValue_30 rfl ?_
    refine tr_aload_n (i := 0) dX12_compileValue_31 rfl ?_
    refine tr_getR 12 h0 fl_X12_97 (by decide +kernel) dX12_compileValue_32 ?_
    refine tr_len 7 (rk_12_37 h0) (by decide) dX12_compileValue_35 ?_
    refine tr_icge (o := none) (tgt := 58) dX12_compileValue_36 (by decide) ?_ ?_
    · exact t_X12_compileValue_58 G hG d hd σ l0 l1 h0
    · refine tr_aload_n (i := 0) dX12_compileValue_39 rfl ?_
      refine tr_aload_n (i := 0) dX12_compileValue_40 rfl ?_
      refine tr_getR 12 h0 fl_X12_97 (by decide +kernel) dX12_compileValue_41 ?_
      refine tr_iload_n (i := 1) dX12_compileValue_44 rfl ?_
      refine tr_ala 7 (rk_12_37 h0) (by decide) (by decide) dX12_compileValue_45 (fun v7 e_v7 => ?_)
      refine tr_c_i (ms_cV (rest := []) (al := [.ref v7]) 12 (sp_X12_isWord G hG (d - 1) (by omega) σ l0 v7 h0 (re_27 (rk_12_37 h0) e_v7)) h0 (by decide +kernel) kl_X12_406 fv_X12_isWord dX12_compileValue_46 (show _ = some 1 by decide +kernel) (by omega) (Nat.le_of_ble_eq_true rfl) (by decide) (by decide)) (fun v8 => ?_)
      refine tr_ifne (o := none) (tgt := 58) dX12_compileValue_49 (by decide) ?_ ?_
      · exact t_X12_compileValue_58 G hG d hd σ l0 l1 h0
      · refine tr_iinc (k := 1) (v := (l1 + 1)) (lv' := [(0, .ref l0), (1, .int (l1 + 1))]) [1, 0] dX12_compileValue_52 rfl rfl (by decide) rfl ?_
        refine tr_goto (tgt := 30) dX12_compileValue_55 (by decide) ?_
        exact (fun s y0 y1 g0 => ih s y0 y1 g0) σ l0 (l1 + 1) h0
set_option maxRecDepth 100000 in
theorem sp_X12_compileValue (G : MG) (hG : (g_l G).stackTraces = false) (d : Nat) (hd : 5 ≤ d)   (σ : MsSt) (l0 : Nat) (h0 : ms_kd l0 = 13) : MsSpec G mX12_compileValue d 0 0 [.ref l0] σ ms_wv (f_X12_compileValue σ l0) := by
  refine ms_start (by decide +kernel) rfl rfl (Nat.le_of_ble_eq_true rfl) ?_
  show TrO G mX12_compileValue d 0 0 0 0 ms_wv 0 [(0, .ref l0)] [] σ (if (ms_i σ l0 32) = 0 then if (ms_i σ l0 31) = 2 then ms_b2 (f_X12_readNumber σ l0 0 9999) fun v9 s10 => (f_X12_emit s10 l0 v9).bind fun s11 => some s11 else f_X12_compileValue_30 ms_fuel σ l0 0 else ms_b2 (f_X12_readNumber σ l0 0 9999) fun v1 s2 => (f_X12_emit s2 l0 v1).bind fun s3 => some s3)
  refine tr_aload_n (i := 0) dX12_compileValue_0 rfl ?_
  refine tr_getI 12 h0 fl_X12_384 (by decide +kernel) dX12_compileValue_1 ?_
  refine tr_ifne (o := none) (tgt := 15) dX12_compileValue_4 (by decide) ?_ ?_
  · refine tr_aload_n (i := 0) dX12_compileValue_15 rfl ?_
    refine tr_aload_n (i := 0) dX12_compileValue_16 rfl ?_
    refine tr_iconst (v := 0) dX12_compileValue_17 (by decide +kernel) ?_
    refine tr_sipush (v := 9999) dX12_compileValue_18 (by decide +kernel) ?_
    refine tr_d_wi (ms_cV (rest := [.ref l0]) (al := [.int 0, .int 9999]) 12 (sp_X12_readNumber G hG (d - 1) (by omega) σ l0 0 9999 h0) h0 (by decide +kernel) kl_X12_451 fv_X12_readNumber dX12_compileValue_21 (show _ = some 2 by decide +kernel) (by omega) (Nat.le_of_ble_eq_true rfl) (by decide) (by decide)) (fun v1 s2 => ?_)
    refine tr_c_wv (ms_cV (rest := []) (al := [.int v1]) 12 (sp_X12_emit G hG (d - 1) (by omega) s2 l0 v1 h0) h0 (by decide +kernel) kl_X12_505 fv_X12_emit dX12_compileValue_24 (show _ = some 1 by decide +kernel) (by omega) (Nat.le_of_ble_eq_true rfl) (by decide) (by decide)) (fun s3 => ?_)
    exact tr_vret rfl rfl (by decide) (by decide) dX12_compileValue_27
  · refine tr_aload_n (i := 0) dX12_compileValue_7 rfl ?_
    refine tr_getI 12 h0 fl_X12_375 (by decide +kernel) dX12_compileValue_8 ?_
    refine tr_iconst (v := 2) dX12_compileValue_11 (by decide +kernel) ?_
    refine tr_icne (o := none) (tgt := 28) dX12_compileValue_12 (by decide) ?_ ?_
    · refine tr_iconst (v := 0) dX12_compileValue_28 (by decide +kernel) ?_
      refine tr_istore_n (lv' := [(0, .ref l0), (1, .int 0)]) [1, 0] dX12_compileValue_29 (by decide) rfl ?_
      exact t_X12_compileValue_30 G hG d hd ms_fuel σ l0 0 h0
    · refine tr_aload_n (i := 0) dX12_compileValue_15 rfl ?_
      refine tr_aload_n (i := 0) dX12_compileValue_16 rfl ?_
      refine tr_iconst (v := 0) dX12_compileValue_17 (by decide +kernel) ?_
      refine tr_sipush (v := 9999) dX12_compileValue_18 (by decide +kernel) ?_
      refine tr_d_wi (ms_cV (rest := [.ref l0]) (al := [.int 0, .int 9999]) 12 (sp_X12_readNumber G hG (d - 1) (by omega) σ l0 0 9999 h0) h0 (by decide +kernel) kl_X12_451 fv_X12_readNumber dX12_compileValue_21 (show _ = some 2 by decide +kernel) (by omega) (Nat.le_of_ble_eq_true rfl) (by decide) (by decide)) (fun v9 s10 => ?_)
      refine tr_c_wv (ms_cV (rest := []) (al := [.int v9]) 12 (sp_X12_emit G hG (d - 1) (by omega) s10 l0 v9 h0) h0 (by decide +kernel) kl_X12_505 fv_X12_emit dX12_compileValue_24 (show _ = some 1 by decide +kernel) (by omega) (Nat.le_of_ble_eq_true rfl) (by decide) (by decide)) (fun s11 => ?_)
      exact tr_vret rfl rfl (by decide) (by decide) dX12_compileValue_27
theorem dX12_compileFactor_0 : decode cX12_compileFactor 0 = .ok (.aload_n 0, 1) := by decide +kernel
theorem dX12_compileFactor_1 : decode cX12_compileFactor 1 = .ok (.ldc_w 508, 3) := by decide +kernel
theorem dX12_compileFactor_4 : decode cX12_compileFactor 4 = .ok (.invokevirtual 406, 3) := by decide +kernel
theorem dX12_compileFactor_7 : decode cX12_compileFactor 7 = .ok (.ifCond .eq 37, 3) := by decide +kernel
theorem dX12_compileFactor_10 : decode cX12_compileFactor 10 = .ok (.aload_n 0, 1) := by decide +kernel
theorem dX12_compileFactor_11 : decode cX12_compileFactor 11 = .ok (.invokevirtual 510, 3) := by decide +kernel
theorem dX12_compileFactor_14 : decode cX12_compileFactor 14 = .ok (.aload_n 0, 1) := by decide +kernel
theorem dX12_compileFactor_15 : decode cX12_compileFactor 15 = .ok (.getfield 384, 3) := by decide +kernel
theorem dX12_compileFactor_18 : decode cX12_compileFactor 18 = .ok (.ifCond .ne 7, 3) := by decide +kernel
theorem dX12_compileFactor_21 : decode cX12_compileFactor 21 = .ok (.aload_n 0, 1) := by decide +kernel
theorem dX12_compileFactor_22 : decode cX12_compileFactor 22 = .ok (.invokevirtual 513, 3) := by decide +kernel
theorem dX12_compileFactor_25 : decode cX12_compileFactor 25 = .ok (.aload_n 0, 1) := by decide +kernel
theorem dX12_compileFactor_26 : decode cX12_compileFactor 26 = .ok (.bipush (-23), 2) := by decide +kernel
theorem dX12_compileFactor_28 : decode cX12_compileFactor 28 = .ok (.invokevirtual 505, 3) := by decide +kernel
theorem dX12_compileFactor_31 : decode cX12_compileFactor 31 = .ok (.aload_n 0, 1) := by decide +kernel
theorem dX12_compileFactor_32 : decode cX12_compileFactor 32 = .ok (.dup, 1) := by decide +kernel
theorem dX12_compileFactor_33 : decode cX12_compileFactor 33 = .ok (.getfield 387, 3) := by decide +kernel
theorem dX12_compileFactor_36 : decode cX12_compileFactor 36 = .ok (.iconst 1, 1) := by decide +kernel
theorem dX12_compileFactor_37 : decode cX12_compileFactor 37 = .ok (.isub, 1) := by decide +kernel
theorem dX12_compileFactor_38 : decode cX12_compileFactor 38 = .ok (.putfield 387, 3) := by decide +kernel
theorem dX12_compileFactor_41 : decode cX12_compileFactor 41 = .ok (.goto 119, 3) := by decide +kernel
theorem dX12_compileFactor_44 : decode cX12_compileFactor 44 = .ok (.aload_n 0, 1) := by decide +kernel
theorem dX12_compileFactor_45 : decode cX12_compileFactor 45 = .ok (.bipush 40, 2) := by decide +kernel
theorem dX12_compileFactor_47 : decode cX12_compileFactor 47 = .ok (.invokevirtual 417, 3) := by decide +kernel
theorem dX12_compileFactor_50 : decode cX12_compileFactor 50 = .ok (.ifCond .eq 37, 3) := by decide +kernel
theorem dX12_compileFactor_53 : decode cX12_compileFactor 53 = .ok (.aload_n 0, 1) := by decide +kernel
theorem dX12_compileFactor_54 : decode cX12_compileFactor 54 = .ok (.invokevirtual 510, 3) := by decide +kernel
theorem dX12_compileFactor_57 : decode cX12_compileFactor 57 = .ok (.aload_n 0, 1) := by decide +kernel
theorem dX12_compileFactor_58 : decode cX12_compileFactor 58 = .ok (.getfield 384, 3) := by decide +kernel
theorem dX12_compileFactor_61 : decode cX12_compileFactor 61 = .ok (.ifCond .ne 7, 3) := by decide +kernel
theorem dX12_compileFactor_64 : decode cX12_compileFactor 64 = .ok (.aload_n 0, 1) := by decide +kernel
theorem dX12_compileFactor_65 : decode cX12_compileFactor 65 = .ok (.invokevirtual 516, 3) := by decide +kernel
theorem dX12_compileFactor_68 : decode cX12_compileFactor 68 = .ok (.aload_n 0, 1) := by decide +kernel
theorem dX12_compileFactor_69 : decode cX12_compileFactor 69 = .ok (.bipush 41, 2) := by decide +kernel
theorem dX12_compileFactor_71 : decode cX12_compileFactor 71 = .ok (.invokevirtual 481, 3) := by decide +kernel
theorem dX12_compileFactor_74 : decode cX12_compileFactor 74 = .ok (.aload_n 0, 1) := by decide +kernel
theorem dX12_compileFactor_75 : decode cX12_compileFactor 75 = .ok (.dup, 1) := by decide +kernel
theorem dX12_compileFactor_76 : decode cX12_compileFactor 76 = .ok (.getfield 387, 3) := by decide +kernel
theorem dX12_compileFactor_79 : decode cX12_compileFactor 79 = .ok (.iconst 1, 1) := by decide +kernel
theorem dX12_compileFactor_80 : decode cX12_compileFactor 80 = .ok (.isub, 1) := by decide +kernel
theorem dX12_compileFactor_81 : decode cX12_compileFactor 81 = .ok (.putfield 387, 3) := by decide +kernel
theorem dX12_compileFactor_84 : decode cX12_compileFactor 84 = .ok (.goto 76, 3) := by decide +kernel
theorem dX12_compileFactor_87 : decode cX12_compileFactor 87 = .ok (.aload_n 0, 1) := by decide +kernel
theorem dX12_compileFactor_88 : decode cX12_compileFactor 88 = .ok (.invokevirtual 519, 3) := by decide +kernel
theorem dX12_compileFactor_91 : decode cX12_compileFactor 91 = .ok (.aload_n 0, 1) := by decide +kernel
theorem dX12_compileFactor_92 : decode cX12_compileFactor 92 = .ok (.bipush 60, 2) := by decide +kernel
theorem dX12_compileFactor_94 : decode cX12_compileFactor 94 = .ok (.invokevirtual 417, 3) := by decide +kernel
theorem dX12_compileFactor_97 : decode cX12_compileFactor 97 = .ok (.ifCond .eq 8, 3) := by decide +kernel
theorem dX12_compileFactor_100 : decode cX12_compileFactor 100 = .ok (.bipush (-20), 2) := by decide +kernel
theorem dX12_compileFactor_102 : decode cX12_compileFactor 102 = .ok (.goto 19, 3) := by decide +kernel
theorem dX12_compileFactor_105 : decode cX12_compileFactor 105 = .ok (.aload_n 0, 1) := by decide +kernel
theorem dX12_compileFactor_106 : decode cX12_compileFactor 106 = .ok (.bipush 61, 2) := by decide +kernel
theorem dX12_compileFactor_108 : decode cX12_compileFactor 108 = .ok (.invokevirtual 417, 3) := by decide +kernel
theorem dX12_compileFactor_111 : decode cX12_compileFactor 111 = .ok (.ifCond .eq 8, 3) := by decide +kernel
theorem dX12_compileFactor_114 : decode cX12_compileFactor 114 = .ok (.bipush (-21), 2) := by decide +kernel
theorem dX12_compileFactor_116 : decode cX12_compileFactor 116 = .ok (.goto 5, 3) := by decide +kernel
theorem dX12_compileFactor_119 : decode cX12_compileFactor 119 = .ok (.bipush (-22), 2) := by decide +kernel
theorem dX12_compileFactor_121 : decode cX12_compileFactor 121 = .ok (.istore_n 1, 1) := by decide +kernel
theorem dX12_compileFactor_122 : decode cX12_compileFactor 122 = .ok (.aload_n 0, 1) := by decide +kernel
theorem dX12_compileFactor_123 : decode cX12_compileFactor 123 = .ok (.iload_n 1, 1) := by decide +kernel
theorem dX12_compileFactor_124 : decode cX12_compileFactor 124 = .ok (.bipush (-22), 2) := by decide +kernel
theorem dX12_compileFactor_126 : decode cX12_compileFactor 126 = .ok (.if_icmp .ne 12, 3) := by decide +kernel
theorem dX12_compileFactor_129 : decode cX12_compileFactor 129 = .ok (.aload_n 0, 1) := by decide +kernel
theorem dX12_compileFactor_130 : decode cX12_compileFactor 130 = .ok (.bipush 62, 2) := by decide +kernel
theorem dX12_compileFactor_132 : decode cX12_compileFactor 132 = .ok (.invokevirtual 417, 3) := by decide +kernel
theorem dX12_compileFactor_135 : decode cX12_compileFactor 135 = .ok (.ifCond .eq 7, 3) := by decide +kernel
theorem dX12_compileFactor_138 : decode cX12_compileFactor 138 = .ok (.iconst 1, 1) := by decide +kernel
theorem dX12_compileFactor_139 : decode cX12_compileFactor 139 = .ok (.goto 4, 3) := by decide +kernel
theorem dX12_compileFactor_142 : decode cX12_compileFactor 142 = .ok (.iconst 0, 1) := by decide +kernel
theorem dX12_compileFactor_143 : decode cX12_compileFactor 143 = .ok (.iconst 1, 1) := by decide +kernel
theorem dX12_compileFactor_144 : decode cX12_compileFactor 144 = .ok (.invokevirtual 410, 3) := by decide +kernel
theorem dX12_compileFactor_147 : decode cX12_compileFactor 147 = .ok (.aload_n 0, 1) := by decide +kernel
theorem dX12_compileFactor_148 : decode cX12_compileFactor 148 = .ok (.invokevirtual 414, 3) := by decide +kernel
theorem dX12_compileFactor_151 : decode cX12_compileFactor 151 = .ok (.aload_n 0, 1) := by decide +kernel
theorem dX12_compileFactor_152 : decode cX12_compileFactor 152 = .ok (.invokevirtual 519, 3) := by decide +kernel
theorem dX12_compileFactor_155 : decode cX12_compileFactor 155 = .ok (.aload_n 0, 1) := by decide +kernel
theorem dX12_compileFactor_156 : decode cX12_compileFactor 156 = .ok (.iload_n 1, 1) := by decide +kernel
theorem dX12_compileFactor_157 : decode cX12_compileFactor 157 = .ok (.invokevirtual 505, 3) := by decide +kernel
theorem dX12_compileFactor_160 : decode cX12_compileFactor 160 = .ok (.return_, 1) := by decide +kernel
set_option maxRecDepth 100000 in
theorem t_X12_compileFactor_143 (G : MG) (hG : (g_l G).stackTraces = false) (d : Nat) (hd : 6 ≤ d) (r_X12_compileFactor : MsSt → Nat → Option MsSt) (r_X12_compileTest : MsSt → Nat → Option MsSt) (dr : Nat) (hdr : dr + 1 ≤ d) (hr_X12_compileFactor : ∀ (s : MsSt) (x0 : Nat), ms_kd x0 = 13 → MsSpec G mX12_compileFactor dr 0 0 [.ref x0] s ms_wv (r_X12_compileFactor s x0)) (hr_X12_compileTest : ∀ (s : MsSt) (x0 : Nat), ms_kd x0 = 13 → MsSpec G mX12_compileTest dr 0 0 [.ref x0] s ms_wv (r_X12_compileTest s x0))  (σ : MsSt) (l0 : Nat) (l1 : Int32) (t0 : Int32) (t1 : Nat) (h0 : ms_kd l0 = 13) (ht1 : ms_kd t1 = 13) : TrO G mX12_compileFactor d 0 0 0 0 ms_wv 143 [(0, .ref l0), (1, .int l1)] [.int t0, .ref t1] σ (f_X12_compileFactor_143 r_X12_compileFactor r_X12_compileTest σ l0 l1 t0 t1) := by
  show TrO G mX12_compileFactor d 0 0 0 0 ms_wv 143 [(0, .ref l0), (1, .int l1)] [.int t0, .ref t1] σ ((f_X12_check σ t1 t0 1).bind fun s6 => (f_X12_advance s6 l0).bind fun s7 => (f_X12_compileValue s7 l0).bind fun s8 => (f_X12_emit s8 l0 l1).bind fun s9 => some s9)
  refine tr_iconst (v := 1) dX12_compileFactor_143 (by decide +kernel) ?_
  refine tr_c_wv (ms_cV (rest := []) (al := [.int t0, .int 1]) 12 (sp_X12_check G hG (d - 1) (by omega) σ t1 t0 1 ht1) ht1 (by decide +kernel) kl_X12_410 fv_X12_check dX12_compileFactor_144 (show _ = some 2 by decide +kernel) (by omega) (Nat.le_of_ble_eq_true rfl) (by decide) (by decide)) (fun s6 => ?_)
  refine tr_aload_n (i := 0) dX12_compileFactor_147 rfl ?_
  refine tr_c_wv (ms_cV (rest := []) (al := []) 12 (sp_X12_advance G hG (d - 1) (by omega) s6 l0 h0) h0 (by decide +kernel) kl_X12_414 fv_X12_advance dX12_compileFactor_148 (show _ = some 0 by decide +kernel) (by omega) (Nat.le_of_ble_eq_true rfl) (by decide) (by decide)) (fun s7 => ?_)
  refine tr_aload_n (i := 0) dX12_compileFactor_151 rfl ?_
  refine tr_c_wv (ms_cV (rest := []) (al := []) 12 (sp_X12_compileValue G hG (d - 1) (by omega) s7 l0 h0) h0 (by decide +kernel) kl_X12_519 fv_X12_compileValue dX12_compileFactor_152 (show _ = some 0 by decide +kernel) (by omega) (Nat.le_of_ble_eq_true rfl) (by decide) (by decide)) (fun s8 => ?_)
  refine tr_aload_n (i := 0) dX12_compileFactor_155 rfl ?_
  refine tr_iload_n (i := 1) dX12_compileFactor_156 rfl ?_
  refine tr_c_wv (ms_cV (rest := []) (al := [.int l1]) 12 (sp_X12_emit G hG (d - 1) (by omega) s8 l0 l1 h0) h0 (by decide +kernel) kl_X12_505 fv_X12_emit dX12_compileFactor_157 (show _ = some 1 by decide +kernel) (by omega) (Nat.le_of_ble_eq_true rfl) (by decide) (by decide)) (fun s9 => ?_)
  exact tr_vret rfl rfl (by decide) (by decide) dX12_compileFactor_160
set_option maxRecDepth 100000 in
theorem t_X12_compileFactor_138 (G : MG) (hG : (g_l G).stackTraces = false) (d : Nat) (hd : 6 ≤ d) (r_X12_compileFactor : MsSt → Nat → Option MsSt) (r_X12_compileTest : MsSt → Nat → Option MsSt) (dr : Nat) (hdr : dr + 1 ≤ d) (hr_X12_compileFactor : ∀ (s : MsSt) (x0 : Nat), ms_kd x0 = 13 → MsSpec G mX12_compileFactor dr 0 0 [.ref x0] s ms_wv (r_X12_compileFactor s x0)) (hr_X12_compileTest : ∀ (s : MsSt) (x0 : Nat), ms_kd x0 = 13 → MsSpec G mX12_compileTest dr 0 0 [.ref x0] s ms_wv (r_X12_compileTest s x0))  (σ : MsSt) (l0 : Nat) (l1 : Int32) (t0 : Nat) (h0 : ms_kd l0 = 13) (ht0 : ms_kd t0 = 13) : TrO G mX12_compileFactor d 0 0 0 0 ms_wv 138 [(0, .ref l0), (1, .int l1)] [.ref t0] σ (f_X12_compileFactor_138 r_X12_compileFactor r_X12_compileTest σ l0 l1 t0) := by
  show TrO G mX12_compileFactor d 0 0 0 0 ms_wv 138 [(0, .ref l0), (1, .int l1)] [.ref t0] σ (f_X12_compileFactor_143 r_X12_compileFactor r_X12_compileTest σ l0 l1 1 t0)
  refine tr_iconst (v := 1) dX12_compileFactor_138 (by decide +kernel) ?_
  refine tr_goto (tgt := 143) dX12_compileFactor_139 (by decide) ?_
  exact t_X12_compileFactor_143 G hG d hd r_X12_compileFactor r_X12_compileTest dr hdr hr_X12_compileFactor hr_X12_compileTest σ l0 l1 1 t0 h0 ht0
set_option maxRecDepth 100000 in
theorem t_X12_compileFactor_121 (G : MG) (hG : (g_l G).stackTraces = false) (d : Nat) (hd : 6 ≤ d) (r_X12_compileFactor : MsSt → Nat → Option MsSt) (r_X12_compileTest : MsSt → Nat → Option MsSt) (dr : Nat) (hdr : dr + 1 ≤ d) (hr_X12_compileFactor : ∀ (s : MsSt) (x0 : Nat), ms_kd x0 = 13 → MsSpec G mX12_compileFactor dr 0 0 [.ref x0] s ms_wv (r_X12_compileFactor s x0)) (hr_X12_compileTest : ∀ (s : MsSt) (x0 : Nat), ms_kd x0 = 13 → MsSpec G mX12_compileTest dr 0 0 [.ref x0] s ms_wv (r_X12_compileTest s x0))  (σ : MsSt) (l0 : Nat) (t0 : Int32) (h0 : ms_kd l0 = 13) : TrO G mX12_compileFactor d 0 0 0 0 ms_wv 121 [(0, .ref l0)] [.int t0] σ (f_X12_compileFactor_121 r_X12_compileFactor r_X12_compileTest σ l0 t0) := by
  show TrO G mX12_compileFactor d 0 0 0 0 ms_wv 121 [(0, .ref l0)] [.int t0] σ (if t0 = (-22) then (f_X12_isSymbol σ l0 62).bind fun v10 => if v10 = 0 then f_X12_compileFactor_143 r_X12_compileFactor r_X12_compileTest σ l0 t0 0 l0 else f_X12_compileFactor_138 r_X12_compileFactor r_X12_compileTest σ l0 t0 l0 else f_X12_compileFactor_138 r_X12_compileFactor r_X12_compileTest σ l0 t0 l0)
  refine tr_istore_n (lv' := [(0, .ref l0), (1, .int t0)]) [1, 0] dX12_compileFactor_121 (by decide) rfl ?_
  refine tr_aload_n (i := 0) dX12_compileFactor_122 rfl ?_
  refine tr_iload_n (i := 1) dX12_compileFactor_123 rfl ?_
  refine tr_bipush (v := (-22)) dX12_compileFactor_124 (by decide +kernel) ?_
  refine tr_icne (o := none) (tgt := 138) dX12_compileFactor_126 (by decide) ?_ ?_
  · exact t_X12_compileFactor_138 G hG d hd r_X12_compileFactor r_X12_compileTest dr hdr hr_X12_compileFactor hr_X12_compileTest σ l0 t0 l0 h0 h0
  · refine tr_aload_n (i := 0) dX12_compileFactor_129 rfl ?_
    refine tr_bipush (v := 62) dX12_compileFactor_130 (by decide +kernel) ?_
    refine tr_c_i (ms_cV (rest := [.ref l0]) (al := [.int 62]) 12 (sp_X12_isSymbol G hG (d - 1) (by omega) σ l0 62 h0) h0 (by decide +kernel) kl_X12_417 fv_X12_isSymbol dX12_compileFactor_132 (show _ = some 1 by decide +kernel) (by omega) (Nat.le_of_ble_eq_true rfl) (by decide) (by decide)) (fun v10 => ?_)
    refine tr_ifeq (o := none) (tgt := 142) dX12_compileFactor_135 (by decide) ?_ ?_
    · refine tr_iconst (v := 0) dX12_compileFactor_142 (by decide +kernel) ?_
      exact t_X12_compileFactor_143 G hG d hd r_X12_compileFactor r_X12_compileTest dr hdr hr_X12_compileFactor hr_X12_compileTest σ l0 t0 0 l0 h0 h0
    · exact t_X12_compileFactor_138 G hG d hd r_X12_compileFactor r_X12_compileTest dr hdr hr_X12_compileFactor hr_X12_compileTest σ l0 t0 l0 h0 h0
set_option maxRecDepth 100000 in
theorem t_X12_compileFactor_68 (G : MG) (hG : (g_l G).stackTraces = false) (d : Nat) (hd : 6 ≤ d) (r_X12_compileFactor : MsSt → Nat → Option MsSt) (r_X12_compileTest : MsSt → Nat → Option MsSt) (dr : Nat) (hdr : dr + 1 ≤ d) (hr_X12_compileFactor : ∀ (s : MsSt) (x0 : Nat), ms_kd x0 = 13 → MsSpec G mX12_compileFactor dr 0 0 [.ref x0] s ms_wv (r_X12_compileFactor s x0)) (hr_X12_compileTest : ∀ (s : MsSt) (x0 : Nat), ms_kd x0 = 13 → MsSpec G mX12_compileTest dr 0 0 [.ref x0] s ms_wv (r_X12_compileTest s x0))  (σ : MsSt) (l0 : Nat) (h0 : ms_kd l0 = 13) : TrO G mX12_compileFactor d 0 0 0 0 ms_wv 68 [(0, .ref l0)] [] σ (f_X12_compileFactor_68 r_X12_compileFactor r_X12_compileTest σ l0) := by
  show TrO G mX12_compileFactor d 0 0 0 0 ms_wv 68 [(0, .ref l0)] [] σ ((f_X12_expect σ l0 41).bind fun s12 => ms_nm (ms_si s12 l0 35 ((ms_i s12 l0 35) - 1)) fun s13 => some s13)
  refine tr_aload_n (i := 0) dX12_compileFactor_68 rfl ?_
  refine tr_bipush (v := 41) dX12_compileFactor_69 (by decide +kernel) ?_
  refine tr_c_wv (ms_cV (rest := []) (al := [.int 41]) 12 (sp_X12_expect G hG (d - 1) (by omega) σ l0 41 h0) h0 (by decide +kernel) kl_X12_481 fv_X12_expect dX12_compileFactor_71 (show _ = some 1 by decide +kernel) (by omega) (Nat.le_of_ble_eq_true rfl) (by decide) (by decide)) (fun s12 => ?_)
  refine tr_aload_n (i := 0) dX12_compileFactor_74 rfl ?_
  refine tr_dup dX12_compileFactor_75 rfl ?_
  refine tr_getI 12 h0 fl_X12_387 (by decide +kernel) dX12_compileFactor_76 ?_
  refine tr_iconst (v := 1) dX12_compileFactor_79 (by decide +kernel) ?_
  refine tr_isub dX12_compileFactor_80 ?_
  refine tr_putI 12 h0 fl_X12_387 (by decide +kernel) dX12_compileFactor_81 ?_
  refine ms_ltS (fun s13 => ?_)
  refine tr_goto (tgt := 160) dX12_compileFactor_84 (by decide) ?_
  exact tr_vret rfl rfl (by decide) (by decide) dX12_compileFactor_160
set_option maxRecDepth 100000 in
theorem t_X12_compileFactor_25 (G : MG) (hG : (g_l G).stackTraces = false) (d : Nat) (hd : 6 ≤ d) (r_X12_compileFactor : MsSt → Nat → Option MsSt) (r_X12_compileTest : MsSt → Nat → Option MsSt) (dr : Nat) (hdr : dr + 1 ≤ d) (hr_X12_compileFactor : ∀ (s : MsSt) (x0 : Nat), ms_kd x0 = 13 → MsSpec G mX12_compileFactor dr 0 0 [.ref x0] s ms_wv (r_X12_compileFactor s x0)) (hr_X12_compileTest : ∀ (s : MsSt) (x0 : Nat), ms_kd x0 = 13 → MsSpec G mX12_compileTest dr 0 0 [.ref x0] s ms_wv (r_X12_compileTest s x0))  (σ : MsSt) (l0 : Nat) (h0 : ms_kd l0 = 13) : TrO G mX12_compileFactor d 0 0 0 0 ms_wv 25 [(0, .ref l0)] [] σ (f_X12_compileFactor_25 r_X12_compileFactor r_X12_compileTest σ l0) := by
  show TrO G mX12_compileFactor d 0 0 0 0 ms_wv 25 [(0, .ref l0)] [] σ ((f_X12_emit σ l0 (-23)).bind fun s16 => ms_nm (ms_si s16 l0 35 ((ms_i s16 l0 35) - 1)) fun s17 => some s17)
  refine tr_aload_n (i := 0) dX12_compileFactor_25 rfl ?_
  refine tr_bipush (v := (-23)) dX12_compileFactor_26 (by decide +kernel) ?_
  refine tr_c_wv (ms_cV (rest := []) (al := [.int (-23)]) 12 (sp_X12_emit G hG (d - 1) (by omega) σ l0 (-23) h0) h0 (by decide +kernel) kl_X12_505 fv_X12_emit dX12_compileFactor_28 (show _ = some 1 by decide +kernel) (by omega) (Nat.le_of_ble_eq_true rfl) (by decide) (by decide)) (fun s16 => ?_)
  refine tr_aload_n (i := 0) dX12_compileFactor_31 rfl ?_
  refine tr_dup dX12_compileFactor_32 rfl ?_
  refine tr_getI 12 h0 fl_X12_387 (by decide +kernel) dX12_compileFactor_33 ?_
  refine tr_iconst (v := 1) dX12_compileFactor_36 (by decide +kernel) ?_
  refine tr_isub dX12_compileFactor_37 ?_
  refine tr_putI 12 h0 fl_X12_387 (by decide +kernel) dX12_compileFactor_38 ?_
  refine ms_ltS (fun s17 => ?_)
  refine tr_goto (tgt := 160) dX12_compileFactor_41 (by decide) ?_
  exact tr_vret rfl rfl (by decide) (by decide) dX12_compileFactor_160
set_option maxRecDepth 100000 in
theorem sp_X12_compileFactor (G : MG) (hG : (g_l G).stackTraces = false) (d : Nat) (hd : 6 ≤ d) (r_X12_compileFactor : MsSt → Nat → Option MsSt) (r_X12_compileTest : MsSt → Nat → Option MsSt) (dr : Nat) (hdr : dr + 1 ≤ d) (hr_X12_compileFactor : ∀ (s : MsSt) (x0 : Nat), ms_kd x0 = 13 → MsSpec G mX12_compileFactor dr 0 0 [.ref x0] s ms_wv (r_X12_compileFactor s x0)) (hr_X12_compileTest : ∀ (s : MsSt) (x0 : Nat), ms_kd x0 = 13 → MsSpec G mX12_compileTest dr 0 0 [.ref x0] s ms_wv (r_X12_compileTest s x0)) (σ : MsSt) (l0 : Nat) (h0 : ms_kd l0 = 13) : MsSpec G mX12_compileFactor d 0 0 [.ref l0] σ ms_wv (f_X12_compileFactor r_X12_compileFactor r_X12_compileTest σ l0) := by
  refine ms_start (by decide +kernel) rfl rfl (Nat.le_of_ble_eq_true rfl) ?_
  show TrO G mX12_compileFactor d 0 0 0 0 ms_wv 0 [(0, .ref l0)] [] σ ((f_X12_isWord σ l0 647).bind fun v1 => if v1 = 0 then (f_X12_isSymbol σ l0 40).bind fun v2 => if v2 = 0 then (f_X12_compileValue σ l0).bind fun s3 => (f_X12_isSymbol s3 l0 60).bind fun v4 => if v4 = 0 then (f_X12_isSymbol s3 l0 61).bind fun v5 => if v5 = 0 then f_X12_compileFactor_121 r_X12_compileFactor r_X12_compileTest s3 l0 (-22) else f_X12_compileFactor_121 r_X12_compileFactor r_X12_compileTest s3 l0 (-21) else f_X12_compileFactor_121 r_X12_compileFactor r_X12_compileTest s3 l0 (-20) else (f_X12_enter σ l0).bind fun s11 => if (ms_i s11 l0 32) = 0 then (r_X12_compileTest s11 l0).bind fun s14 => f_X12_compileFactor_68 r_X12_compileFactor r_X12_compileTest s14 l0 else f_X12_compileFactor_68 r_X12_compileFactor r_X12_compileTest s11 l0 else (f_X12_enter σ l0).bind fun s15 => if (ms_i s15 l0 32) = 0 then (r_X12_compileFactor s15 l0).bind fun s18 => f_X12_compileFactor_25 r_X12_compileFactor r_X12_compileTest s18 l0 else f_X12_compileFactor_25 r_X12_compileFactor r_X12_compileTest s15 l0)
  refine tr_aload_n (i := 0) dX12_compileFactor_0 rfl ?_
  refine tr_ldcsw 47 (tx := "not") (by decide) (by decide +kernel) dX12_compileFactor_1 ?_
  refine tr_c_i (ms_cV (rest := []) (al := [.ref 647]) 12 (sp_X12_isWord G hG (d - 1) (by omega) σ l0 647 h0 (⟨by decide, by decide⟩)) h0 (by decide +kernel) kl_X12_406 fv_X12_isWord dX12_compileFactor_4 (show _ = some 1 by decide +kernel) (by omega) (Nat.le_of_ble_eq_true rfl) (by decide) (by decide)) (fun v1 => ?_)
  refine tr_ifeq (o := none) (tgt := 44) dX12_compileFactor_7 (by decide) ?_ ?_
  · refine tr_aload_n (i := 0) dX12_compileFactor_44 rfl ?_
    refine tr_bipush (v := 40) dX12_compileFactor_45 (by decide +kernel) ?_
    refine tr_c_i (ms_cV (rest := []) (al := [.int 40]) 12 (sp_X12_isSymbol G hG (d - 1) (by omega) σ l0 40 h0) h0 (by decide +kernel) kl_X12_417 fv_X12_isSymbol dX12_compileFactor_47 (show _ = some 1 by decide +kernel) (by omega) (Nat.le_of_ble_eq_true rfl) (by decide) (by decide)) (fun v2 => ?_)
    refine tr_ifeq (o := none) (tgt := 87) dX12_compileFactor_50 (by decide) ?_ ?_
    · refine tr_aload_n (i := 0) dX12_compileFactor_87 rfl ?_
      refine tr_c_wv (ms_cV (rest := []) (al := []) 12 (sp_X12_compileValue G hG (d - 1) (by omega) σ l0 h0) h0 (by decide +kernel) kl_X12_519 fv_X12_compileValue dX12_compileFactor_88 (show _ = some 0 by decide +kernel) (by omega) (Nat.le_of_ble_eq_true rfl) (by decide) (by decide)) (fun s3 => ?_)
      refine tr_aload_n (i := 0) dX12_compileFactor_91 rfl ?_
      refine tr_bipush (v := 60) dX12_compileFactor_92 (by decide +kernel) ?_
      refine tr_c_i (ms_cV (rest := []) (al := [.int 60]) 12 (sp_X12_isSymbol G hG (d - 1) (by omega) s3 l0 60 h0) h0 (by decide +kernel) kl_X12_417 fv_X12_isSymbol dX12_compileFactor_94 (show _ = some 1 by decide +kernel) (by omega) (Nat.le_of_ble_eq_true rfl) (by decide) (by decide)) (fun v4 => ?_)
      refine tr_ifeq (o := none) (tgt := 105) dX12_compileFactor_97 (by decide) ?_ ?_
      · refine tr_aload_n (i := 0) dX12_compileFactor_105 rfl ?_
        refine tr_bipush (v := 61) dX12_compileFactor_106 (by decide +kernel) ?_
        refine tr_c_i (ms_cV (rest := []) (al := [.int 61]) 12 (sp_X12_isSymbol G hG (d - 1) (by omega) s3 l0 61 h0) h0 (by decide +kernel) kl_X12_417 fv_X12_isSymbol dX12_compileFactor_108 (show _ = some 1 by decide +kernel) (by omega) (Nat.le_of_ble_eq_true rfl) (by decide) (by decide)) (fun v5 => ?_)
        refine tr_ifeq (o := none) (tgt := 119) dX12_compileFactor_111 (by decide) ?_ ?_
        · refine tr_bipush (v := (-22)) dX12_compileFactor_119 (by decide +kernel) ?_
          exact t_X12_compileFactor_121 G hG d hd r_X12_compileFactor r_X12_compileTest dr hdr hr_X12_compileFactor hr_X12_compileTest s3 l0 (-22) h0
        · refine tr_bipush (v := (-21)) dX12_compileFactor_114 (by decide +kernel) ?_
          refine tr_goto (tgt := 121) dX12_compileFactor_116 (by decide) ?_
          exact t_X12_compileFactor_121 G hG d hd r_X12_compileFactor r_X12_compileTest dr hdr hr_X12_compileFactor hr_X12_compileTest s3 l0 (-21) h0
      · refine tr_bipush (v := (-20)) dX12_compileFactor_100 (by decide +kernel) ?_
        refine tr_goto (tgt := 121) dX12_compileFactor_102 (by decide) ?_
        exact t_X12_compileFactor_121 G hG d hd r_X12_compileFactor r_X12_compileTest dr hdr hr_X12_compileFactor hr_X12_compileTest s3 l0 (-20) h0
    · refine tr_aload_n (i := 0) dX12_compileFactor_53 rfl ?_
      refine tr_c_wv (ms_cV (rest := []) (al := []) 12 (sp_X12_enter G hG (d - 1) (by omega) σ l0 h0) h0 (by decide +kernel) kl_X12_510 fv_X12_enter dX12_compileFactor_54 (show _ = some 0 by decide +kernel) (by omega) (Nat.le_of_ble_eq_true rfl) (by decide) (by decide)) (fun s11 => ?_)
      refine tr_aload_n (i := 0) dX12_compileFactor_57 rfl ?_
      refine tr_getI 12 h0 fl_X12_384 (by decide +kernel) dX12_compileFactor_58 ?_
      refine tr_ifne (o := none) (tgt := 68) dX12_compileFactor_61 (by decide) ?_ ?_
      · exact t_X12_compileFactor_68 G hG d hd r_X12_compileFactor r_X12_compileTest dr hdr hr_X12_compileFactor hr_X12_compileTest s11 l0 h0
      · refine tr_aload_n (i := 0) dX12_compileFactor_64 rfl ?_
        refine tr_c_wv (ms_cV (rest := []) (al := []) 12 (hr_X12_compileTest s11 l0 h0) h0 (by decide +kernel) kl_X12_516 fv_X12_compileTest dX12_compileFactor_65 (show _ = some 0 by decide +kernel) (by omega) (Nat.le_of_ble_eq_true rfl) (by decide) (by decide)) (fun s14 => ?_)
        exact t_X12_compileFactor_68 G hG d hd r_X12_compileFactor r_X12_compileTest dr hdr hr_X12_compileFactor hr_X12_compileTest s14 l0 h0
  · refine tr_aload_n (i := 0) dX12_compileFactor_10 rfl ?_
    refine tr_c_wv (ms_cV (rest := []) (al := []) 12 (sp_X12_enter G hG (d - 1) (by omega) σ l0 h0) h0 (by decide +kernel) kl_X12_510 fv_X12_enter dX12_compileFactor_11 (show _ = some 0 by decide +kernel) (by omega) (Nat.le_of_ble_eq_true rfl) (by decide) (by decide)) (fun s15 => ?_)
    refine tr_aload_n (i := 0) dX12_compileFactor_14 rfl ?_
    refine tr_getI 12 h0 fl_X12_384 (by decide +kernel) dX12_compileFactor_15 ?_
    refine tr_ifne (o := none) (tgt := 25) dX12_compileFactor_18 (by decide) ?_ ?_
    · exact t_X12_compileFactor_25 G hG d hd r_X12_compileFactor r_X12_compileTest dr hdr hr_X12_compileFactor hr_X12_compileTest s15 l0 h0
    · refine tr_aload_n (i := 0) dX12_compileFactor_21 rfl ?_
      refine tr_c_wv (ms_cV (rest := []) (al := []) 12 (hr_X12_compileFactor s15 l0 h0) h0 (by decide +kernel) kl_X12_513 fv_X12_compileFactor dX12_compileFactor_22 (show _ = some 0 by decide +kernel) (by omega) (Nat.le_of_ble_eq_true rfl) (by decide) (by decide)) (fun s18 => ?_)
      exact t_X12_compileFactor_25 G hG d hd r_X12_compileFactor r_X12_compileTest dr hdr hr_X12_compileFactor hr_X12_compileTest s18 l0 h0
theorem dX12_compileConjunction_0 : decode cX12_compileConjunction 0 = .ok (.aload_n 0, 1) := by decide +kernel
theorem dX12_compileConjunction_1 : decode cX12_compileConjunction 1 = .ok (.invokevirtual 513, 3) := by decide +kernel
theorem dX12_compileConjunction_4 : decode cX12_compileConjunction 4 = .ok (.aload_n 0, 1) := by decide +kernel
theorem dX12_compileConjunction_5 : decode cX12_compileConjunction 5 = .ok (.ldc_w 522, 3) := by decide +kernel
theorem dX12_compileConjunction_8 : decode cX12_compileConjunction 8 = .ok (.invokevirtual 465, 3) := by decide +kernel
theorem dX12_compileConjunction_11 : decode cX12_compileConjunction 11 = .ok (.ifCond .eq 16, 3) := by decide +kernel
theorem dX12_compileConjunction_14 : decode cX12_compileConjunction 14 = .ok (.aload_n 0, 1) := by decide +kernel
theorem dX12_compileConjunction_15 : decode cX12_compileConjunction 15 = .ok (.invokevirtual 513, 3) := by decide +kernel
theorem dX12_compileConjunction_18 : decode cX12_compileConjunction 18 = .ok (.aload_n 0, 1) := by decide +kernel
theorem dX12_compileConjunction_19 : decode cX12_compileConjunction 19 = .ok (.bipush (-24), 2) := by decide +kernel
theorem dX12_compileConjunction_21 : decode cX12_compileConjunction 21 = .ok (.invokevirtual 505, 3) := by decide +kernel
theorem dX12_compileConjunction_24 : decode cX12_compileConjunction 24 = .ok (.goto (-20), 3) := by decide +kernel
theorem dX12_compileConjunction_27 : decode cX12_compileConjunction 27 = .ok (.return_, 1) := by decide +kernel
set_option maxRecDepth 100000 in
theorem t_X12_compileConjunction_4 (G : MG) (hG : (g_l G).stackTraces = false) (d : Nat) (hd : 6 ≤ d) (r_X12_compileFactor : MsSt → Nat → Option MsSt) (dr : Nat) (hdr : dr + 1 ≤ d) (hr_X12_compileFactor : ∀ (s : MsSt) (x0 : Nat), ms_kd x0 = 13 → MsSpec G mX12_compileFactor dr 0 0 [.ref x0] s ms_wv (r_X12_compileFactor s x0))  : ∀ (n : Nat) (σ : MsSt) (l0 : Nat) (h0 : ms_kd l0 = 13), TrO G mX12_compileConjunction d 0 0 0 0 ms_wv 4 [(0, .ref l0)] [] σ (f_X12_compileConjunction_4 r_X12_compileFactor n σ l0) := by
  intro n
  induction n with
  | zero => exact fun _ _ _ => tr_none
  | succ n ih =>
    intro σ l0 h0
    show TrO G mX12_compileConjunction d 0 0 0 0 ms_wv 4 [(0, .ref l0)] [] σ (ms_b2 (f_X12_accept σ l0 648) fun v2 s3 => if v2 = 0 then some s3 else (r_X12_compileFactor s3 l0).bind fun s4 => (f_X12_emit s4 l0 (-24)).bind fun s5 => (f_X12_compileConjunction_4 r_X12_compileFactor n) s5 l0)
    refine tr_aload_n (i := 0) dX12_compileConjunction_4 rfl ?_
    refine tr_ldcsw 48 (tx := "and") (by decide) (by decide +kernel) dX12_compileConjunction_5 ?_
    refine tr_d_wi (ms_cV (rest := []) (al := [.ref 648]) 12 (sp_X12_accept G hG (d - 1) (by omega) σ l0 648 h0 (⟨by decide, by decide⟩)) h0 (by decide +kernel) kl_X12_465 fv_X12_accept dX12_compileConjunction_8 (show _ = some 1 by decide +kernel) (by omega) (Nat.le_of_ble_eq_true rfl) (by decide) (by decide)) (fun v2 s3 => ?_)
    refine tr_ifeq (o := none) (tgt := 27) dX12_compileConjunction_11 (by decide) ?_ ?_
    · exact tr_vret rfl rfl (by decide) (by decide) dX12_compileConjunction_27
    · refine tr_aload_n (i := 0) dX12_compileConjunction_14 rfl ?_
      refine tr_c_wv (ms_cV (rest := []) (al := []) 12 (hr_X12_compileFactor s3 l0 h0) h0 (by decide +kernel) kl_X12_513 fv_X12_compileFactor dX12_compileConjunction_15 (show _ = some 0 by decide +kernel) (by omega) (Nat.le_of_ble_eq_true rfl) (by decide) (by decide)) (fun s4 => ?_)
      refine tr_aload_n (i := 0) dX12_compileConjunction_18 rfl ?_
      refine tr_bipush (v := (-24)) dX12_compileConjunction_19 (by decide +kernel) ?_
      refine tr_c_wv (ms_cV (rest := []) (al := [.int (-24)]) 12 (sp_X12_emit G hG (d - 1) (by omega) s4 l0 (-24) h0) h0 (by decide +kernel) kl_X12_505 fv_X12_emit dX12_compileConjunction_21 (show _ = some 1 by decide +kernel) (by omega) (Nat.le_of_ble_eq_true rfl) (by decide) (by decide)) (fun s5 => ?_)
      refine tr_goto (tgt := 4) dX12_compileConjunction_24 (by decide) ?_
      exact (fun s y0 g0 => ih s y0 g0) s5 l0 h0
set_option maxRecDepth 100000 in
theorem sp_X12_compileConjunction (G : MG) (hG : (g_l G).stackTraces = false) (d : Nat) (hd : 6 ≤ d) (r_X12_compileFactor : MsSt → Nat → Option MsSt) (dr : Nat) (hdr : dr + 1 ≤ d) (hr_X12_compileFactor : ∀ (s : MsSt) (x0 : Nat), ms_kd x0 = 13 → MsSpec G mX12_compileFactor dr 0 0 [.ref x0] s ms_wv (r_X12_compileFactor s x0)) (σ : MsSt) (l0 : Nat) (h0 : ms_kd l0 = 13) : MsSpec G mX12_compileConjunction d 0 0 [.ref l0] σ ms_wv (f_X12_compileConjunction r_X12_compileFactor σ l0) := by
  refine ms_start (by decide +kernel) rfl rfl (Nat.le_of_ble_eq_true rfl) ?_
  show TrO G mX12_compileConjunction d 0 0 0 0 ms_wv 0 [(0, .ref l0)] [] σ ((r_X12_compileFactor σ l0).bind fun s1 => f_X12_compileConjunction_4 r_X12_compileFactor ms_fuel s1 l0)
  refine tr_aload_n (i := 0) dX12_compileConjunction_0 rfl ?_
  refine tr_c_wv (ms_cV (rest := []) (al := []) 12 (hr_X12_compileFactor σ l0 h0) h0 (by decide +kernel) kl_X12_513 fv_X12_compileFactor dX12_compileConjunction_1 (show _ = some 0 by decide +kernel) (by omega) (Nat.le_of_ble_eq_true rfl) (by decide) (by decide)) (fun s1 => ?_)
  exact t_X12_compileConjunction_4 G hG d hd r_X12_compileFactor dr hdr hr_X12_compileFactor ms_fuel s1 l0 h0
theorem dX12_compileTest_0 : decode cX12_compileTest 0 = .ok (.aload_n 0, 1) := by decide +kernel
theorem dX12_compileTest_1 : decode cX12_compileTest 1 = .ok (.invokevirtual 524, 3) := by decide +kernel
theorem dX12_compileTest_4 : decode cX12_compileTest 4 = .ok (.aload_n 0, 1) := by decide +kernel
theorem dX12_compileTest_5 : decode cX12_compileTest 5 = .ok (.ldc_w 527, 3) := by decide +kernel
theorem dX12_compileTest_8 : decode cX12_compileTest 8 = .ok (.invokevirtual 465, 3) := by decide +kernel
theorem dX12_compileTest_11 : decode cX12_compileTest 11 = .ok (.ifCond .eq 16, 3) := by decide +kernel
theorem dX12_compileTest_14 : decode cX12_compileTest 14 = .ok (.aload_n 0, 1) := by decide +kernel
theorem dX12_compileTest_15 : decode cX12_compileTest 15 = .ok (.invokevirtual 524, 3) := by decide +kernel
theorem dX12_compileTest_18 : decode cX12_compileTest 18 = .ok (.aload_n 0, 1) := by decide +kernel
theorem dX12_compileTest_19 : decode cX12_compileTest 19 = .ok (.bipush (-25), 2) := by decide +kernel
theorem dX12_compileTest_21 : decode cX12_compileTest 21 = .ok (.invokevirtual 505, 3) := by decide +kernel
theorem dX12_compileTest_24 : decode cX12_compileTest 24 = .ok (.goto (-20), 3) := by decide +kernel
theorem dX12_compileTest_27 : decode cX12_compileTest 27 = .ok (.return_, 1) := by decide +kernel
set_option maxRecDepth 100000 in
theorem t_X12_compileTest_4 (G : MG) (hG : (g_l G).stackTraces = false) (d : Nat) (hd : 7 ≤ d) (r_X12_compileFactor : MsSt → Nat → Option MsSt) (dr : Nat) (hdr : dr + 2 ≤ d) (hr_X12_compileFactor : ∀ (s : MsSt) (x0 : Nat), ms_kd x0 = 13 → MsSpec G mX12_compileFactor dr 0 0 [.ref x0] s ms_wv (r_X12_compileFactor s x0))  : ∀ (n : Nat) (σ : MsSt) (l0 : Nat) (h0 : ms_kd l0 = 13), TrO G mX12_compileTest d 0 0 0 0 ms_wv 4 [(0, .ref l0)] [] σ (f_X12_compileTest_4 r_X12_compileFactor n σ l0) := by
  intro n
  induction n with
  | zero => exact fun _ _ _ => tr_none
  | succ n ih =>
    intro σ l0 h0
    show TrO G mX12_compileTest d 0 0 0 0 ms_wv 4 [(0, .ref l0)] [] σ (ms_b2 (f_X12_accept σ l0 649) fun v2 s3 => if v2 = 0 then some s3 else (f_X12_compileConjunction r_X12_compileFactor s3 l0).bind fun s4 => (f_X12_emit s4 l0 (-25)).bind fun s5 => (f_X12_compileTest_4 r_X12_compileFactor n) s5 l0)
    refine tr_aload_n (i := 0) dX12_compileTest_4 rfl ?_
    refine tr_ldcsw 49 (tx := "or") (by decide) (by decide +kernel) dX12_compileTest_5 ?_
    refine tr_d_wi (ms_cV (rest := []) (al := [.ref 649]) 12 (sp_X12_accept G hG (d - 1) (by omega) σ l0 649 h0 (⟨by decide, by decide⟩)) h0 (by decide +kernel) kl_X12_465 fv_X12_accept dX12_compileTest_8 (show _ = some 1 by decide +kernel) (by omega) (Nat.le_of_ble_eq_true rfl) (by decide) (by decide)) (fun v2 s3 => ?_)
    refine tr_ifeq (o := none) (tgt := 27) dX12_compileTest_11 (by decide) ?_ ?_
    · exact tr_vret rfl rfl (by decide) (by decide) dX12_compileTest_27
    · refine tr_aload_n (i := 0) dX12_compileTest_14 rfl ?_
      refine tr_c_wv (ms_cV (rest := []) (al := []) 12 (sp_X12_compileConjunction G hG (d - 1) (by omega) r_X12_compileFactor dr (by omega) hr_X12_compileFactor s3 l0 h0) h0 (by decide +kernel) kl_X12_524 fv_X12_compileConjunction dX12_compileTest_15 (show _ = some 0 by decide +kernel) (by omega) (Nat.le_of_ble_eq_true rfl) (by decide) (by decide)) (fun s4 => ?_)
      refine tr_aload_n (i := 0) dX12_compileTest_18 rfl ?_
      refine tr_bipush (v := (-25)) dX12_compileTest_19 (by decide +kernel) ?_
      refine tr_c_wv (ms_cV (rest := []) (al := [.int (-25)]) 12 (sp_X12_emit G hG (d - 1) (by omega) s4 l0 (-25) h0) h0 (by decide +kernel) kl_X12_505 fv_X12_emit dX12_compileTest_21 (show _ = some 1 by decide +kernel) (by omega) (Nat.le_of_ble_eq_true rfl) (by decide) (by decide)) (fun s5 => ?_)
      refine tr_goto (tgt := 4) dX12_compileTest_24 (by decide) ?_
      exact (fun s y0 g0 => ih s y0 g0) s5 l0 h0
set_option maxRecDepth 100000 in
theorem sp_X12_compileTest (G : MG) (hG : (g_l G).stackTraces = false) (d : Nat) (hd : 7 ≤ d) (r_X12_compileFactor : MsSt → Nat → Option MsSt) (dr : Nat) (hdr : dr + 2 ≤ d) (hr_X12_compileFactor : ∀ (s : MsSt) (x0 : Nat), ms_kd x0 = 13 → MsSpec G mX12_compileFactor dr 0 0 [.ref x0] s ms_wv (r_X12_compileFactor s x0)) (σ : MsSt) (l0 : Nat) (h0 : ms_kd l0 = 13) : MsSpec G mX12_compileTest d 0 0 [.ref l0] σ ms_wv (f_X12_compileTest r_X12_compileFactor σ l0) := by
  refine ms_start (by decide +kernel) rfl rfl (Nat.le_of_ble_eq_true rfl) ?_
  show TrO G mX12_compileTest d 0 0 0 0 ms_wv 0 [(0, .ref l0)] [] σ ((f_X12_compileConjunction r_X12_compileFactor σ l0).bind fun s1 => f_X12_compileTest_4 r_X12_compileFactor ms_fuel s1 l0)
  refine tr_aload_n (i := 0) dX12_compileTest_0 rfl ?_
  refine tr_c_wv (ms_cV (rest := []) (al := []) 12 (sp_X12_compileConjunction G hG (d - 1) (by omega) r_X12_compileFactor dr (by omega) hr_X12_compileFactor σ l0 h0) h0 (by decide +kernel) kl_X12_524 fv_X12_compileConjunction dX12_compileTest_1 (show _ = some 0 by decide +kernel) (by omega) (Nat.le_of_ble_eq_true rfl) (by decide) (by decide)) (fun s1 => ?_)
  exact t_X12_compileTest_4 G hG d hd r_X12_compileFactor dr hdr hr_X12_compileFactor ms_fuel s1 l0 h0
theorem rc_X12_compileFactor (G : MG) (hG : (g_l G).stackTraces = false) : ∀ (j d : Nat) (hd : 7 + 3 * j ≤ d) (σ : MsSt) (x0 : Nat), ms_kd x0 = 13 → MsSpec G mX12_compileFactor d 0 0 [.ref x0] σ ms_wv (rec_X12_compileFactor j σ x0) := by
  intro j
  induction j with
  | zero => intro d hd σ x0 h r hr; cases hr
  | succ j ih =>
    intro d hd σ x0 h
    exact sp_X12_compileFactor G hG d (by omega) (rec_X12_compileFactor j) (f_X12_compileTest (rec_X12_compileFactor j)) (d - 1) (by omega) (fun s y0 hy => ih (d - 1) (by omega) s y0 hy)
      (fun s y0 hy => sp_X12_compileTest G hG (d - 1) (by omega) (rec_X12_compileFactor j) (d - 3) (by omega) (fun s2 z0 hz => ih (d - 3) (by omega) s2 z0 hz) s y0 hy) σ x0 h
theorem dX12_operate_0 : decode cX12_operate 0 = .ok (.iload_n 0, 1) := by decide +kernel
theorem dX12_operate_1 : decode cX12_operate 1 = .ok (.tableswitch 75 (-24) (-20) #[71, 75, 59, 47, 35], 35) := by decide +kernel
theorem dX12_operate_36 : decode cX12_operate 36 = .ok (.lload_n 1, 1) := by decide +kernel
theorem dX12_operate_37 : decode cX12_operate 37 = .ok (.lload_n 3, 1) := by decide +kernel
theorem dX12_operate_38 : decode cX12_operate 38 = .ok (.lcmp, 1) := by decide +kernel
theorem dX12_operate_39 : decode cX12_operate 39 = .ok (.ifCond .ge 7, 3) := by decide +kernel
theorem dX12_operate_42 : decode cX12_operate 42 = .ok (.lconst 1, 1) := by decide +kernel
theorem dX12_operate_43 : decode cX12_operate 43 = .ok (.goto 4, 3) := by decide +kernel
theorem dX12_operate_46 : decode cX12_operate 46 = .ok (.lconst 0, 1) := by decide +kernel
theorem dX12_operate_47 : decode cX12_operate 47 = .ok (.lreturn, 1) := by decide +kernel
theorem dX12_operate_48 : decode cX12_operate 48 = .ok (.lload_n 1, 1) := by decide +kernel
theorem dX12_operate_49 : decode cX12_operate 49 = .ok (.lload_n 3, 1) := by decide +kernel
theorem dX12_operate_50 : decode cX12_operate 50 = .ok (.lcmp, 1) := by decide +kernel
theorem dX12_operate_51 : decode cX12_operate 51 = .ok (.ifCond .ne 7, 3) := by decide +kernel
theorem dX12_operate_54 : decode cX12_operate 54 = .ok (.lconst 1, 1) := by decide +kernel
theorem dX12_operate_55 : decode cX12_operate 55 = .ok (.goto 4, 3) := by decide +kernel
theorem dX12_operate_58 : decode cX12_operate 58 = .ok (.lconst 0, 1) := by decide +kernel
theorem dX12_operate_59 : decode cX12_operate 59 = .ok (.lreturn, 1) := by decide +kernel
theorem dX12_operate_60 : decode cX12_operate 60 = .ok (.lload_n 1, 1) := by decide +kernel
theorem dX12_operate_61 : decode cX12_operate 61 = .ok (.lload_n 3, 1) := by decide +kernel
theorem dX12_operate_62 : decode cX12_operate 62 = .ok (.lcmp, 1) := by decide +kernel
theorem dX12_operate_63 : decode cX12_operate 63 = .ok (.ifCond .le 7, 3) := by decide +kernel
theorem dX12_operate_66 : decode cX12_operate 66 = .ok (.lconst 1, 1) := by decide +kernel
theorem dX12_operate_67 : decode cX12_operate 67 = .ok (.goto 4, 3) := by decide +kernel
theorem dX12_operate_70 : decode cX12_operate 70 = .ok (.lconst 0, 1) := by decide +kernel
theorem dX12_operate_71 : decode cX12_operate 71 = .ok (.lreturn, 1) := by decide +kernel
theorem dX12_operate_72 : decode cX12_operate 72 = .ok (.lload_n 1, 1) := by decide +kernel
theorem dX12_operate_73 : decode cX12_operate 73 = .ok (.lload_n 3, 1) := by decide +kernel
theorem dX12_operate_74 : decode cX12_operate 74 = .ok (.land, 1) := by decide +kernel
theorem dX12_operate_75 : decode cX12_operate 75 = .ok (.lreturn, 1) := by decide +kernel
theorem dX12_operate_76 : decode cX12_operate 76 = .ok (.lload_n 1, 1) := by decide +kernel
theorem dX12_operate_77 : decode cX12_operate 77 = .ok (.lload_n 3, 1) := by decide +kernel
theorem dX12_operate_78 : decode cX12_operate 78 = .ok (.lor, 1) := by decide +kernel
theorem dX12_operate_79 : decode cX12_operate 79 = .ok (.lreturn, 1) := by decide +kernel
set_option maxRecDepth 100000 in
theorem sp_X12_operate (G : MG) (hG : (g_l G).stackTraces = false) (d : Nat) (hd : 0 ≤ d)   (σ : MsSt) (l0 : Int32) (l1 : Int64) (l3 : Int64) : MsSpec G mX12_operate d 0 0 [.int l0, .long l1, .long l3] σ (ms_kj σ) (f_X12_operate σ l0 l1 l3) := by
  refine ms_start (by decide +kernel) rfl rfl (Nat.le_of_ble_eq_true rfl) ?_
  show TrO G mX12_operate d 0 0 0 0 (ms_kj σ) 0 [(0, .int l0), (1, .long l1), (3, .long l3)] [] σ (if l0 = (-24) then some (l1 &&& l3) else if l0 = (-23) then some (l1 ||| l3) else if l0 = (-22) then if 0 < (lg_cmp l1 l3) then some 1 else some 0 else if l0 = (-21) then if (lg_cmp l1 l3) = 0 then some 1 else some 0 else if l0 = (-20) then if (lg_cmp l1 l3) < 0 then some 1 else some 0 else some (l1 ||| l3))
  refine tr_iload_n (i := 0) dX12_operate_0 rfl ?_
  refine tr_tsIn (tgt := 72) (off := 71) (-24) dX12_operate_1 (by decide +kernel) (by decide +kernel) (by decide +kernel) (by decide) ?_ (fun n0 => ?_)
  · refine tr_lload_n (i := 1) dX12_operate_72 rfl ?_
    refine tr_lload_n (i := 2) dX12_operate_73 rfl ?_
    refine tr_land dX12_operate_74 ?_
    exact tr_lret rfl rfl (by decide) (by decide) dX12_operate_75
  refine tr_tsIn (tgt := 76) (off := 75) (-23) dX12_operate_1 (by decide +kernel) (by decide +kernel) (by decide +kernel) (by decide) ?_ (fun n1 => ?_)
  · refine tr_lload_n (i := 1) dX12_operate_76 rfl ?_
    refine tr_lload_n (i := 2) dX12_operate_77 rfl ?_
    refine tr_lor dX12_operate_78 ?_
    exact tr_lret rfl rfl (by decide) (by decide) dX12_operate_79
  refine tr_tsIn (tgt := 60) (off := 59) (-22) dX12_operate_1 (by decide +kernel) (by decide +kernel) (by decide +kernel) (by decide) ?_ (fun n2 => ?_)
  · refine tr_lload_n (i := 1) dX12_operate_60 rfl ?_
    refine tr_lload_n (i := 2) dX12_operate_61 rfl ?_
    refine tr_lcmp dX12_operate_62 ?_
    refine tr_ifle (o := none) (tgt := 70) dX12_operate_63 (by decide) ?_ ?_
    · refine tr_lconst (v := 0) dX12_operate_70 (by decide +kernel) ?_
      exact tr_lret rfl rfl (by decide) (by decide) dX12_operate_71
    · refine tr_lconst (v := 1) dX12_operate_66 (by decide +kernel) ?_
      refine tr_goto (tgt := 71) dX12_operate_67 (by decide) ?_
      exact tr_lret rfl rfl (by decide) (by decide) dX12_operate_71
  refine tr_tsIn (tgt := 48) (off := 47) (-21) dX12_operate_1 (by decide +kernel) (by decide +kernel) (by decide +kernel) (by decide) ?_ (fun n3 => ?_)
  · refine tr_lload_n (i := 1) dX12_operate_48 rfl ?_
    refine tr_lload_n (i := 2) dX12_operate_49 rfl ?_
    refine tr_lcmp dX12_operate_50 ?_
    refine tr_ifne (o := none) (tgt := 58) dX12_operate_51 (by decide) ?_ ?_
    · refine tr_lconst (v := 0) dX12_operate_58 (by decide +kernel) ?_
      exact tr_lret rfl rfl (by decide) (by decide) dX12_operate_59
    · refine tr_lconst (v := 1) dX12_operate_54 (by decide +kernel) ?_
      refine tr_goto (tgt := 59) dX12_operate_55 (by decide) ?_
      exact tr_lret rfl rfl (by decide) (by decide) dX12_operate_59
  refine tr_tsIn (tgt := 36) (off := 35) (-20) dX12_operate_1 (by decide +kernel) (by decide +kernel) (by decide +kernel) (by decide) ?_ (fun n4 => ?_)
  · refine tr_lload_n (i := 1) dX12_operate_36 rfl ?_
    refine tr_lload_n (i := 2) dX12_operate_37 rfl ?_
    refine tr_lcmp dX12_operate_38 ?_
    refine tr_ifge (o := none) (tgt := 46) dX12_operate_39 (by decide) ?_ ?_
    · refine tr_lconst (v := 0) dX12_operate_46 (by decide +kernel) ?_
      exact tr_lret rfl rfl (by decide) (by decide) dX12_operate_47
    · refine tr_lconst (v := 1) dX12_operate_42 (by decide +kernel) ?_
      refine tr_goto (tgt := 47) dX12_operate_43 (by decide) ?_
      exact tr_lret rfl rfl (by decide) (by decide) dX12_operate_47
  refine tr_tsOut (tgt := 76) dX12_operate_1 ?_ (by decide) ?_
  · have q0 := lv_neT (a := -24) n0 (by decide +kernel); have q1 := lv_neT (a := -23) n1 (by decide +kernel); have q2 := lv_neT (a := -22) n2 (by decide +kernel); have q3 := lv_neT (a := -21) n3 (by decide +kernel); have q4 := lv_neT (a := -20) n4 (by decide +kernel); omega
  refine tr_lload_n (i := 1) dX12_operate_76 rfl ?_
  refine tr_lload_n (i := 2) dX12_operate_77 rfl ?_
  refine tr_lor dX12_operate_78 ?_
  exact tr_lret rfl rfl (by decide) (by decide) dX12_operate_79
theorem dX12_holdsFor_0 : decode cX12_holdsFor 0 = .ok (.iconst 0, 1) := by decide +kernel
theorem dX12_holdsFor_1 : decode cX12_holdsFor 1 = .ok (.istore_n 2, 1) := by decide +kernel
theorem dX12_holdsFor_2 : decode cX12_holdsFor 2 = .ok (.iconst 0, 1) := by decide +kernel
theorem dX12_holdsFor_3 : decode cX12_holdsFor 3 = .ok (.istore_n 3, 1) := by decide +kernel
theorem dX12_holdsFor_4 : decode cX12_holdsFor 4 = .ok (.iload_n 3, 1) := by decide +kernel
theorem dX12_holdsFor_5 : decode cX12_holdsFor 5 = .ok (.aload_n 0, 1) := by decide +kernel
theorem dX12_holdsFor_6 : decode cX12_holdsFor 6 = .ok (.getfield 502, 3) := by decide +kernel
theorem dX12_holdsFor_9 : decode cX12_holdsFor 9 = .ok (.if_icmp .ge 115, 3) := by decide +kernel
theorem dX12_holdsFor_12 : decode cX12_holdsFor 12 = .ok (.aload_n 0, 1) := by decide +kernel
theorem dX12_holdsFor_13 : decode cX12_holdsFor 13 = .ok (.getfield 100, 3) := by decide +kernel
theorem dX12_holdsFor_16 : decode cX12_holdsFor 16 = .ok (.iload_n 3, 1) := by decide +kernel
theorem dX12_holdsFor_17 : decode cX12_holdsFor 17 = .ok (.iaload, 1) := by decide +kernel
theorem dX12_holdsFor_18 : decode cX12_holdsFor 18 = .ok (.istore 4, 2) := by decide +kernel
theorem dX12_holdsFor_20 : decode cX12_holdsFor 20 = .ok (.iload 4, 2) := by decide +kernel
theorem dX12_holdsFor_22 : decode cX12_holdsFor 22 = .ok (.bipush (-23), 2) := by decide +kernel
theorem dX12_holdsFor_24 : decode cX12_holdsFor 24 = .ok (.if_icmp .ne 24, 3) := by decide +kernel
theorem dX12_holdsFor_27 : decode cX12_holdsFor 27 = .ok (.aload_n 0, 1) := by decide +kernel
theorem dX12_holdsFor_28 : decode cX12_holdsFor 28 = .ok (.getfield 103, 3) := by decide +kernel
theorem dX12_holdsFor_31 : decode cX12_holdsFor 31 = .ok (.iload_n 2, 1) := by decide +kernel
theorem dX12_holdsFor_32 : decode cX12_holdsFor 32 = .ok (.iconst 1, 1) := by decide +kernel
theorem dX12_holdsFor_33 : decode cX12_holdsFor 33 = .ok (.isub, 1) := by decide +kernel
theorem dX12_holdsFor_34 : decode cX12_holdsFor 34 = .ok (.lconst 1, 1) := by decide +kernel
theorem dX12_holdsFor_35 : decode cX12_holdsFor 35 = .ok (.aload_n 0, 1) := by decide +kernel
theorem dX12_holdsFor_36 : decode cX12_holdsFor 36 = .ok (.getfield 103, 3) := by decide +kernel
theorem dX12_holdsFor_39 : decode cX12_holdsFor 39 = .ok (.iload_n 2, 1) := by decide +kernel
theorem dX12_holdsFor_40 : decode cX12_holdsFor 40 = .ok (.iconst 1, 1) := by decide +kernel
theorem dX12_holdsFor_41 : decode cX12_holdsFor 41 = .ok (.isub, 1) := by decide +kernel
theorem dX12_holdsFor_42 : decode cX12_holdsFor 42 = .ok (.laload, 1) := by decide +kernel
theorem dX12_holdsFor_43 : decode cX12_holdsFor 43 = .ok (.lsub, 1) := by decide +kernel
theorem dX12_holdsFor_44 : decode cX12_holdsFor 44 = .ok (.lastore, 1) := by decide +kernel
theorem dX12_holdsFor_45 : decode cX12_holdsFor 45 = .ok (.goto 73, 3) := by decide +kernel
theorem dX12_holdsFor_48 : decode cX12_holdsFor 48 = .ok (.iload 4, 2) := by decide +kernel
theorem dX12_holdsFor_50 : decode cX12_holdsFor 50 = .ok (.bipush (-20), 2) := by decide +kernel
theorem dX12_holdsFor_52 : decode cX12_holdsFor 52 = .ok (.if_icmp .le 36, 3) := by decide +kernel
theorem dX12_holdsFor_55 : decode cX12_holdsFor 55 = .ok (.aload_n 0, 1) := by decide +kernel
theorem dX12_holdsFor_56 : decode cX12_holdsFor 56 = .ok (.getfield 103, 3) := by decide +kernel
theorem dX12_holdsFor_59 : decode cX12_holdsFor 59 = .ok (.iload_n 2, 1) := by decide +kernel
theorem dX12_holdsFor_60 : decode cX12_holdsFor 60 = .ok (.iload 4, 2) := by decide +kernel
theorem dX12_holdsFor_62 : decode cX12_holdsFor 62 = .ok (.ifCond .lt 9, 3) := by decide +kernel
theorem dX12_holdsFor_65 : decode cX12_holdsFor 65 = .ok (.iload 4, 2) := by decide +kernel
theorem dX12_holdsFor_67 : decode cX12_holdsFor 67 = .ok (.i2l, 1) := by decide +kernel
theorem dX12_holdsFor_68 : decode cX12_holdsFor 68 = .ok (.goto 13, 3) := by decide +kernel
theorem dX12_holdsFor_71 : decode cX12_holdsFor 71 = .ok (.aload_n 0, 1) := by decide +kernel
theorem dX12_holdsFor_72 : decode cX12_holdsFor 72 = .ok (.iload_n 1, 1) := by decide +kernel
theorem dX12_holdsFor_73 : decode cX12_holdsFor 73 = .ok (.iconst (-1), 1) := by decide +kernel
theorem dX12_holdsFor_74 : decode cX12_holdsFor 74 = .ok (.iload 4, 2) := by decide +kernel
theorem dX12_holdsFor_76 : decode cX12_holdsFor 76 = .ok (.isub, 1) := by decide +kernel
theorem dX12_holdsFor_77 : decode cX12_holdsFor 77 = .ok (.invokevirtual 529, 3) := by decide +kernel
theorem dX12_holdsFor_80 : decode cX12_holdsFor 80 = .ok (.i2l, 1) := by decide +kernel
theorem dX12_holdsFor_81 : decode cX12_holdsFor 81 = .ok (.lastore, 1) := by decide +kernel
theorem dX12_holdsFor_82 : decode cX12_holdsFor 82 = .ok (.iinc 2 1, 3) := by decide +kernel
theorem dX12_holdsFor_85 : decode cX12_holdsFor 85 = .ok (.goto 33, 3) := by decide +kernel
theorem dX12_holdsFor_88 : decode cX12_holdsFor 88 = .ok (.iinc 2 (-1), 3) := by decide +kernel
theorem dX12_holdsFor_91 : decode cX12_holdsFor 91 = .ok (.aload_n 0, 1) := by decide +kernel
theorem dX12_holdsFor_92 : decode cX12_holdsFor 92 = .ok (.getfield 103, 3) := by decide +kernel
theorem dX12_holdsFor_95 : decode cX12_holdsFor 95 = .ok (.iload_n 2, 1) := by decide +kernel
theorem dX12_holdsFor_96 : decode cX12_holdsFor 96 = .ok (.iconst 1, 1) := by decide +kernel
theorem dX12_holdsFor_97 : decode cX12_holdsFor 97 = .ok (.isub, 1) := by decide +kernel
theorem dX12_holdsFor_98 : decode cX12_holdsFor 98 = .ok (.iload 4, 2) := by decide +kernel
theorem dX12_holdsFor_100 : decode cX12_holdsFor 100 = .ok (.aload_n 0, 1) := by decide +kernel
theorem dX12_holdsFor_101 : decode cX12_holdsFor 101 = .ok (.getfield 103, 3) := by decide +kernel
theorem dX12_holdsFor_104 : decode cX12_holdsFor 104 = .ok (.iload_n 2, 1) := by decide +kernel
theorem dX12_holdsFor_105 : decode cX12_holdsFor 105 = .ok (.iconst 1, 1) := by decide +kernel
theorem dX12_holdsFor_106 : decode cX12_holdsFor 106 = .ok (.isub, 1) := by decide +kernel
theorem dX12_holdsFor_107 : decode cX12_holdsFor 107 = .ok (.laload, 1) := by decide +kernel
theorem dX12_holdsFor_108 : decode cX12_holdsFor 108 = .ok (.aload_n 0, 1) := by decide +kernel
theorem dX12_holdsFor_109 : decode cX12_holdsFor 109 = .ok (.getfield 103, 3) := by decide +kernel
theorem dX12_holdsFor_112 : decode cX12_holdsFor 112 = .ok (.iload_n 2, 1) := by decide +kernel
theorem dX12_holdsFor_113 : decode cX12_holdsFor 113 = .ok (.laload, 1) := by decide +kernel
theorem dX12_holdsFor_114 : decode cX12_holdsFor 114 = .ok (.invokestatic 532, 3) := by decide +kernel
theorem dX12_holdsFor_117 : decode cX12_holdsFor 117 = .ok (.lastore, 1) := by decide +kernel
theorem dX12_holdsFor_118 : decode cX12_holdsFor 118 = .ok (.iinc 3 1, 3) := by decide +kernel
theorem dX12_holdsFor_121 : decode cX12_holdsFor 121 = .ok (.goto (-117), 3) := by decide +kernel
theorem dX12_holdsFor_124 : decode cX12_holdsFor 124 = .ok (.aload_n 0, 1) := by decide +kernel
theorem dX12_holdsFor_125 : decode cX12_holdsFor 125 = .ok (.getfield 103, 3) := by decide +kernel
theorem dX12_holdsFor_128 : decode cX12_holdsFor 128 = .ok (.iconst 0, 1) := by decide +kernel
theorem dX12_holdsFor_129 : decode cX12_holdsFor 129 = .ok (.laload, 1) := by decide +kernel
theorem dX12_holdsFor_130 : decode cX12_holdsFor 130 = .ok (.lconst 1, 1) := by decide +kernel
theorem dX12_holdsFor_131 : decode cX12_holdsFor 131 = .ok (.lcmp, 1) := by decide +kernel
theorem dX12_holdsFor_132 : decode cX12_holdsFor 132 = .ok (.ifCond .ne 7, 3) := by decide +kernel
theorem dX12_holdsFor_135 : decode cX12_holdsFor 135 = .ok (.iconst 1, 1) := by decide +kernel
theorem dX12_holdsFor_136 : decode cX12_holdsFor 136 = .ok (.goto 4, 3) := by decide +kernel
theorem dX12_holdsFor_139 : decode cX12_holdsFor 139 = .ok (.iconst 0, 1) := by decide +kernel
theorem dX12_holdsFor_140 : decode cX12_holdsFor 140 = .ok (.ireturn, 1) := by decide +kernel
set_option maxRecDepth 100000 in
theorem t_X12_holdsFor_4 (G : MG) (hG : (g_l G).stackTraces = false) (d : Nat) (hd : 5 ≤ d)    : ∀ (n : Nat) (σ : MsSt) (l0 : Nat) (l1 : Int32) (l2 : Int32) (l3 : Int32) (h0 : ms_kd l0 = 13), TrO G mX12_holdsFor d 0 0 0 0 ms_wi 4 [(0, .ref l0), (1, .int l1), (2, .int l2), (3, .int l3)] [] σ (f_X12_holdsFor_4 n σ l0 l1 l2 l3) := by
  intro n
  induction n with
  | zero => exact fun _ _ _ _ _ _ => tr_none
  | succ n ih =>
    intro σ l0 l1 l2 l3 h0
    show TrO G mX12_holdsFor d 0 0 0 0 ms_wi 4 [(0, .ref l0), (1, .int l1), (2, .int l2), (3, .int l3)] [] σ (if l3 < (ms_i σ l0 40) then (ms_ald σ (ms_rf l0 38) l3).bind fun v2 => if v2 = (-23) then (ms_alj σ (ms_rf l0 39) (l2 - 1)).bind fun v10 => (ms_asj σ (ms_rf l0 39) (l2 - 1) (1 - v10)).bind fun s11 => (f_X12_holdsFor_4 n) s11 l0 l1 l2 (l3 + 1) else if (-20) < v2 then if v2 < 0 then (f_X12_property σ l0 l1 ((-1) - v2)).bind fun v7 => (ms_asj σ (ms_rf l0 39) l2 v7.toInt64).bind fun s8 => (f_X12_holdsFor_4 n) s8 l0 l1 (l2 + 1) (l3 + 1) else (ms_asj σ (ms_rf l0 39) l2 v2.toInt64).bind fun s9 => (f_X12_holdsFor_4 n) s9 l0 l1 (l2 + 1) (l3 + 1) else (ms_alj σ (ms_rf l0 39) ((l2 + (-1)) - 1)).bind fun v3 => (ms_alj σ (ms_rf l0 39) (l2 + (-1))).bind fun v4 => (f_X12_operate σ v2 v3 v4).bind fun v5 => (ms_asj σ (ms_rf l0 39) ((l2 + (-1)) - 1) v5).bind fun s6 => (f_X12_holdsFor_4 n) s6 l0 l1 (l2 + (-1)) (l3 + 1) else (ms_alj σ (ms_rf l0 39) 0).bind fun v1 => if (lg_cmp v1 1) = 0 then some (1, σ) else some (0, σ))
    refine tr_iload_n (i := 3) dX12_holdsFor_4 rfl ?_
    refine tr_aload_n (i := 0) dX12_holdsFor_5 rfl ?_
    refine tr_getI 12 h0 fl_X12_502 (by decide +kernel) dX12_holdsFor_6 ?_
    refine tr_icge (o := none) (tgt := 124) dX12_holdsFor_9 (by decide) ?_ ?_
    · refine tr_aload_n (i := 0) dX12_holdsFor_124 rfl ?_
      refine tr_getR 12 h0 fl_X12_103 (by decide +kernel) dX12_holdsFor_125 ?_
      refine tr_iconst (v := 0) dX12_holdsFor_128 (by decide +kernel) ?_
      refine tr_alj (rk_12_39 h0) dX12_holdsFor_129 (fun v1 => ?_)
      refine tr_lconst (v := 1) dX12_holdsFor_130 (by decide +kernel) ?_
      refine tr_lcmp dX12_holdsFor_131 ?_
      refine tr_ifne (o := none) (tgt := 139) dX12_holdsFor_132 (by decide) ?_ ?_
      · refine tr_iconst (v := 0) dX12_holdsFor_139 (by decide +kernel) ?_
        exact tr_zret rfl (by decide +kernel) rfl (by decide) (by decide) dX12_holdsFor_140
      · refine tr_iconst (v := 1) dX12_holdsFor_135 (by decide +kernel) ?_
        refine tr_goto (tgt := 140) dX12_holdsFor_136 (by decide) ?_
        exact tr_zret rfl (by decide +kernel) rfl (by decide) (by decide) dX12_holdsFor_140
    · refine tr_aload_n (i := 0) dX12_holdsFor_12 rfl ?_
      refine tr_getR 12 h0 fl_X12_100 (by decide +kernel) dX12_holdsFor_13 ?_
      refine tr_iload_n (i := 3) dX12_holdsFor_16 rfl ?_
      refine tr_ald (rk_12_38 h0) dX12_holdsFor_17 (fun v2 => ?_)
      refine tr_istore (lv' := [(0, .ref l0), (1, .int l1), (2, .int l2), (3, .int l3), (4, .int v2)]) [1, 2, 3, 4, 0] dX12_holdsFor_18 (by decide) rfl ?_
      refine tr_iload (i := 4) dX12_holdsFor_20 rfl ?_
      refine tr_bipush (v := (-23)) dX12_holdsFor_22 (by decide +kernel) ?_
      refine tr_icne (o := none) (tgt := 48) dX12_holdsFor_24 (by decide) ?_ ?_
      · refine tr_iload (i := 4) dX12_holdsFor_48 rfl ?_
        refine tr_bipush (v := (-20)) dX12_holdsFor_50 (by decide +kernel) ?_
        refine tr_icle (o := none) (tgt := 88) dX12_holdsFor_52 (by decide) ?_ ?_
        · refine tr_iinc (k := 2) (v := (l2 + (-1))) (lv' := [(0, .ref l0), (1, .int l1), (2, .int (l2 + (-1))), (3, .int l3), (4, .int v2)]) [1, 2, 0, 3, 4] dX12_holdsFor_88 rfl rfl (by decide) rfl ?_
          refine tr_aload_n (i := 0) dX12_holdsFor_91 rfl ?_
          refine tr_getR 12 h0 fl_X12_103 (by decide +kernel) dX12_holdsFor_92 ?_
          refine tr_iload_n (i := 2) dX12_holdsFor_95 rfl ?_
          refine tr_iconst (v := 1) dX12_holdsFor_96 (by decide +kernel) ?_
          refine tr_isub dX12_holdsFor_97 ?_
          refine tr_iload (i := 4) dX12_holdsFor_98 rfl ?_
          refine tr_aload_n (i := 0) dX12_holdsFor_100 rfl ?_
          refine tr_getR 12 h0 fl_X12_103 (by decide +kernel) dX12_holdsFor_101 ?_
          refine tr_iload_n (i := 2) dX12_holdsFor_104 rfl ?_
          refine tr_iconst (v := 1) dX12_holdsFor_105 (by decide +kernel) ?_
          refine tr_isub dX12_holdsFor_106 ?_
          refine tr_alj (rk_12_39 h0) dX12_holdsFor_107 (fun v3 => ?_)
          refine tr_aload_n (i := 0) dX12_holdsFor_108 rfl ?_
          refine tr_getR 12 h0 fl_X12_103 (by decide +kernel) dX12_holdsFor_109 ?_
          refine tr_iload_n (i := 2) dX12_holdsFor_112 rfl ?_
          refine tr_alj (rk_12_39 h0) dX12_holdsFor_113 (fun v4 => ?_)
          refine tr_c_j (ms_cS (rest := [.int ((l2 + (-1)) - 1), .ref (ms_rf l0 39)]) (al := [.int v2, .long v3, .long v4]) (sp_X12_operate G hG (d - 1) (by omega) σ v2 v3 v4) kl_X12_532 fs_X12_operate dX12_holdsFor_114 (show _ = some 3 by decide +kernel) (by omega) (Nat.le_of_ble_eq_true rfl) (by decide) (by decide)) (fun v5 => ?_)
          refine tr_asj (rk_12_39 h0) dX12_holdsFor_117 (fun s6 => ?_)
          refine tr_iinc (k := 3) (v := (l3 + 1)) (lv' := [(0, .ref l0), (1, .int l1), (2, .int (l2 + (-1))), (3, .int (l3 + 1))]) [1, 2, 3, 0] dX12_holdsFor_118 rfl rfl (by decide) rfl ?_
          refine tr_goto (tgt := 4) dX12_holdsFor_121 (by decide) ?_
          exact (fun s y0 y1 y2 y3 g0 => ih s y0 y1 y2 y3 g0) s6 l0 l1 (l2 + (-1)) (l3 + 1) h0
        · refine tr_aload_n (i := 0) dX12_holdsFor_55 rfl ?_
          refine tr_getR 12 h0 fl_X12_103 (by decide +kernel) dX12_holdsFor_56 ?_
          refine tr_iload_n (i := 2) dX12_holdsFor_59 rfl ?_
          refine tr_iload (i := 4) dX12_holdsFor_60 rfl ?_
          refine tr_iflt (o := none) (tgt := 71) dX12_holdsFor_62 (by decide) ?_ ?_
          · refine tr_aload_n (i := 0) dX12_holdsFor_71 rfl ?_
            refine tr_iload_n (i := 1) dX12_holdsFor_72 rfl ?_
            refine tr_iconst (v := (-1)) dX12_holdsFor_73 (by decide +kernel) ?_
            refine tr_iload (i := 4) dX12_holdsFor_74 rfl ?_
            refine tr_isub dX12_holdsFor_76 ?_
            refine tr_c_i (ms_cV (rest := [.int l2, .ref (ms_rf l0 39)]) (al := [.int l1, .int ((-1) - v2)]) 12 (sp_X12_property G hG (d - 1) (by omega) σ l0 l1 ((-1) - v2) h0) h0 (by decide +kernel) kl_X12_529 fv_X12_property dX12_holdsFor_77 (show _ = some 2 by decide +kernel) (by omega) (Nat.le_of_ble_eq_true rfl) (by decide) (by decide)) (fun v7 => ?_)
            refine tr_i2l dX12_holdsFor_80 ?_
            refine tr_asj (rk_12_39 h0) dX12_holdsFor_81 (fun s8 => ?_)
            refine tr_iinc (k := 2) (v := (l2 + 1)) (lv' := [(0, .ref l0), (1, .int l1), (2, .int (l2 + 1)), (3, .int l3)]) [1, 2, 0, 3] dX12_holdsFor_82 rfl rfl (by decide) rfl ?_
            refine tr_goto (tgt := 118) dX12_holdsFor_85 (by decide) ?_
            refine tr_iinc (k := 3) (v := (l3 + 1)) (lv' := [(0, .ref l0), (1, .int l1), (2, .int (l2 + 1)), (3, .int (l3 + 1))]) [1, 2, 3, 0] dX12_holdsFor_118 rfl rfl (by decide) rfl ?_
            refine tr_goto (tgt := 4) dX12_holdsFor_121 (by decide) ?_
            exact (fun s y0 y1 y2 y3 g0 => ih s y0 y1 y2 y3 g0) s8 l0 l1 (l2 + 1) (l3 + 1) h0
          · refine tr_iload (i := 4) dX12_holdsFor_65 rfl ?_
            refine tr_i2l dX12_holdsFor_67 ?_
            refine tr_goto (tgt := 81) dX12_holdsFor_68 (by decide) ?_
            refine tr_asj (rk_12_39 h0) dX12_holdsFor_81 (fun s9 => ?_)
            refine tr_iinc (k := 2) (v := (l2 + 1)) (lv' := [(0, .ref l0), (1, .int l1), (2, .int (l2 + 1)), (3, .int l3)]) [1, 2, 0, 3] dX12_holdsFor_82 rfl rfl (by decide) rfl ?_
            refine tr_goto (tgt := 118) dX12_holdsFor_85 (by decide) ?_
            refine tr_iinc (k := 3) (v := (l3 + 1)) (lv' := [(0, .ref l0), (1, .int l1), (2, .int (l2 + 1)), (3, .int (l3 + 1))]) [1, 2, 3, 0] dX12_holdsFor_118 rfl rfl (by decide) rfl ?_
            refine tr_goto (tgt := 4) dX12_holdsFor_121 (by decide) ?_
            exact (fun s y0 y1 y2 y3 g0 => ih s y0 y1 y2 y3 g0) s9 l0 l1 (l2 + 1) (l3 + 1) h0
      · refine tr_aload_n (i := 0) dX12_holdsFor_27 rfl ?_
        refine tr_getR 12 h0 fl_X12_103 (by decide +kernel) dX12_holdsFor_28 ?_
        refine tr_iload_n (i := 2) dX12_holdsFor_31 rfl ?_
        refine tr_iconst (v := 1) dX12_holdsFor_32 (by decide +kernel) ?_
        refine tr_isub dX12_holdsFor_33 ?_
        refine tr_lconst (v := 1) dX12_holdsFor_34 (by decide +kernel) ?_
        refine tr_aload_n (i := 0) dX12_holdsFor_35 rfl ?_
        refine tr_getR 12 h0 fl_X12_103 (by decide +kernel) dX12_holdsFor_36 ?_
        refine tr_iload_n (i := 2) dX12_holdsFor_39 rfl ?_
        refine tr_iconst (v := 1) dX12_holdsFor_40 (by decide +kernel) ?_
        refine tr_isub dX12_holdsFor_41 ?_
        refine tr_alj (rk_12_39 h0) dX12_holdsFor_42 (fun v10 => ?_)
        refine tr_lsub dX12_holdsFor_43 ?_
        refine tr_asj (rk_12_39 h0) dX12_holdsFor_44 (fun s11 => ?_)
        refine tr_goto (tgt := 118) dX12_holdsFor_45 (by decide) ?_
        refine tr_iinc (k := 3) (v := (l3 + 1)) (lv' := [(0, .ref l0), (1, .int l1), (2, .int l2), (3, .int (l3 + 1))]) [1, 2, 3, 0] dX12_holdsFor_118 rfl rfl (by decide) rfl ?_
        refine tr_goto (tgt := 4) dX12_holdsFor_121 (by decide) ?_
        exact (fun s y0 y1 y2 y3 g0 => ih s y0 y1 y2 y3 g0) s11 l0 l1 l2 (l3 + 1) h0
set_option maxRecDepth 100000 in
theorem sp_X12_holdsFor (G : MG) (hG : (g_l G).stackTraces = false) (d : Nat) (hd : 5 ≤ d)   (σ : MsSt) (l0 : Nat) (l1 : Int32) (h0 : ms_kd l0 = 13) : MsSpec G mX12_holdsFor d 0 0 [.ref l0, .int l1] σ ms_wi (f_X12_holdsFor σ l0 l1) := by
  refine ms_start (by decide +kernel) rfl rfl (Nat.le_of_ble_eq_true rfl) ?_
  show TrO G mX12_holdsFor d 0 0 0 0 ms_wi 0 [(0, .ref l0), (1, .int l1)] [] σ (f_X12_holdsFor_4 ms_fuel σ l0 l1 0 0)
  refine tr_iconst (v := 0) dX12_holdsFor_0 (by decide +kernel) ?_
  refine tr_istore_n (lv' := [(0, .ref l0), (1, .int l1), (2, .int 0)]) [1, 2, 0] dX12_holdsFor_1 (by decide) rfl ?_
  refine tr_iconst (v := 0) dX12_holdsFor_2 (by decide +kernel) ?_
  refine tr_istore_n (lv' := [(0, .ref l0), (1, .int l1), (2, .int 0), (3, .int 0)]) [1, 2, 3, 0] dX12_holdsFor_3 (by decide) rfl ?_
  exact t_X12_holdsFor_4 G hG d hd ms_fuel σ l0 l1 0 0 h0
theorem dX12_query_0 : decode cX12_query 0 = .ok (.aload_n 0, 1) := by decide +kernel
theorem dX12_query_1 : decode cX12_query 1 = .ok (.iconst 0, 1) := by decide +kernel
theorem dX12_query_2 : decode cX12_query 2 = .ok (.putfield 107, 3) := by decide +kernel
theorem dX12_query_5 : decode cX12_query 5 = .ok (.iload_n 1, 1) := by decide +kernel
theorem dX12_query_6 : decode cX12_query 6 = .ok (.i2l, 1) := by decide +kernel
theorem dX12_query_7 : decode cX12_query 7 = .ok (.lconst 0, 1) := by decide +kernel
theorem dX12_query_8 : decode cX12_query 8 = .ok (.aload_n 0, 1) := by decide +kernel
theorem dX12_query_9 : decode cX12_query 9 = .ok (.getfield 360, 3) := by decide +kernel
theorem dX12_query_12 : decode cX12_query 12 = .ok (.sipush 200, 3) := by decide +kernel
theorem dX12_query_15 : decode cX12_query 15 = .ok (.invokestatic 207, 3) := by decide +kernel
theorem dX12_query_18 : decode cX12_query 18 = .ok (.i2l, 1) := by decide +kernel
theorem dX12_query_19 : decode cX12_query 19 = .ok (.invokestatic 110, 3) := by decide +kernel
theorem dX12_query_22 : decode cX12_query 22 = .ok (.ifCond .ne 9, 3) := by decide +kernel
theorem dX12_query_25 : decode cX12_query 25 = .ok (.aload_n 0, 1) := by decide +kernel
theorem dX12_query_26 : decode cX12_query 26 = .ok (.iconst 1, 1) := by decide +kernel
theorem dX12_query_27 : decode cX12_query 27 = .ok (.invokevirtual 230, 3) := by decide +kernel
theorem dX12_query_30 : decode cX12_query 30 = .ok (.ireturn, 1) := by decide +kernel
theorem dX12_query_31 : decode cX12_query 31 = .ok (.aload_n 0, 1) := by decide +kernel
theorem dX12_query_32 : decode cX12_query 32 = .ok (.iconst 0, 1) := by decide +kernel
theorem dX12_query_33 : decode cX12_query 33 = .ok (.putfield 502, 3) := by decide +kernel
theorem dX12_query_36 : decode cX12_query 36 = .ok (.aload_n 0, 1) := by decide +kernel
theorem dX12_query_37 : decode cX12_query 37 = .ok (.iload_n 1, 1) := by decide +kernel
theorem dX12_query_38 : decode cX12_query 38 = .ok (.invokevirtual 493, 3) := by decide +kernel
theorem dX12_query_41 : decode cX12_query 41 = .ok (.aload_n 0, 1) := by decide +kernel
theorem dX12_query_42 : decode cX12_query 42 = .ok (.ldc_w 536, 3) := by decide +kernel
theorem dX12_query_45 : decode cX12_query 45 = .ok (.invokevirtual 406, 3) := by decide +kernel
theorem dX12_query_48 : decode cX12_query 48 = .ok (.istore_n 2, 1) := by decide +kernel
theorem dX12_query_49 : decode cX12_query 49 = .ok (.aload_n 0, 1) := by decide +kernel
theorem dX12_query_50 : decode cX12_query 50 = .ok (.iload_n 2, 1) := by decide +kernel
theorem dX12_query_51 : decode cX12_query 51 = .ok (.ifCond .ne 13, 3) := by decide +kernel
theorem dX12_query_54 : decode cX12_query 54 = .ok (.aload_n 0, 1) := by decide +kernel
theorem dX12_query_55 : decode cX12_query 55 = .ok (.ldc_w 538, 3) := by decide +kernel
theorem dX12_query_58 : decode cX12_query 58 = .ok (.invokevirtual 406, 3) := by decide +kernel
theorem dX12_query_61 : decode cX12_query 61 = .ok (.ifCond .eq 7, 3) := by decide +kernel
theorem dX12_query_64 : decode cX12_query 64 = .ok (.iconst 1, 1) := by decide +kernel
theorem dX12_query_65 : decode cX12_query 65 = .ok (.goto 4, 3) := by decide +kernel
theorem dX12_query_68 : decode cX12_query 68 = .ok (.iconst 0, 1) := by decide +kernel
theorem dX12_query_69 : decode cX12_query 69 = .ok (.iconst 1, 1) := by decide +kernel
theorem dX12_query_70 : decode cX12_query 70 = .ok (.invokevirtual 410, 3) := by decide +kernel
theorem dX12_query_73 : decode cX12_query 73 = .ok (.aload_n 0, 1) := by decide +kernel
theorem dX12_query_74 : decode cX12_query 74 = .ok (.invokevirtual 414, 3) := by decide +kernel
theorem dX12_query_77 : decode cX12_query 77 = .ok (.aload_n 0, 1) := by decide +kernel
theorem dX12_query_78 : decode cX12_query 78 = .ok (.invokevirtual 516, 3) := by decide +kernel
theorem dX12_query_81 : decode cX12_query 81 = .ok (.aload_n 0, 1) := by decide +kernel
theorem dX12_query_82 : decode cX12_query 82 = .ok (.aload_n 0, 1) := by decide +kernel
theorem dX12_query_83 : decode cX12_query 83 = .ok (.getfield 384, 3) := by decide +kernel
theorem dX12_query_86 : decode cX12_query 86 = .ok (.ifCond .ne 10, 3) := by decide +kernel
theorem dX12_query_89 : decode cX12_query 89 = .ok (.aload_n 0, 1) := by decide +kernel
theorem dX12_query_90 : decode cX12_query 90 = .ok (.getfield 375, 3) := by decide +kernel
theorem dX12_query_93 : decode cX12_query 93 = .ok (.ifCond .ne 7, 3) := by decide +kernel
theorem dX12_query_96 : decode cX12_query 96 = .ok (.iconst 1, 1) := by decide +kernel
theorem dX12_query_97 : decode cX12_query 97 = .ok (.goto 4, 3) := by decide +kernel
theorem dX12_query_100 : decode cX12_query 100 = .ok (.iconst 0, 1) := by decide +kernel
theorem dX12_query_101 : decode cX12_query 101 = .ok (.iconst 1, 1) := by decide +kernel
theorem dX12_query_102 : decode cX12_query 102 = .ok (.invokevirtual 410, 3) := by decide +kernel
theorem dX12_query_105 : decode cX12_query 105 = .ok (.aload_n 0, 1) := by decide +kernel
theorem dX12_query_106 : decode cX12_query 106 = .ok (.invokevirtual 499, 3) := by decide +kernel
theorem dX12_query_109 : decode cX12_query 109 = .ok (.ifCond .eq 12, 3) := by decide +kernel
theorem dX12_query_112 : decode cX12_query 112 = .ok (.ldc_w 539, 3) := by decide +kernel
theorem dX12_query_115 : decode cX12_query 115 = .ok (.aload_n 0, 1) := by decide +kernel
theorem dX12_query_116 : decode cX12_query 116 = .ok (.getfield 384, 3) := by decide +kernel
theorem dX12_query_119 : decode cX12_query 119 = .ok (.isub, 1) := by decide +kernel
theorem dX12_query_120 : decode cX12_query 120 = .ok (.ireturn, 1) := by decide +kernel
theorem dX12_query_121 : decode cX12_query 121 = .ok (.iconst 0, 1) := by decide +kernel
theorem dX12_query_122 : decode cX12_query 122 = .ok (.istore_n 3, 1) := by decide +kernel
theorem dX12_query_123 : decode cX12_query 123 = .ok (.iconst 0, 1) := by decide +kernel
theorem dX12_query_124 : decode cX12_query 124 = .ok (.istore 4, 2) := by decide +kernel
theorem dX12_query_126 : decode cX12_query 126 = .ok (.iload 4, 2) := by decide +kernel
theorem dX12_query_128 : decode cX12_query 128 = .ok (.aload_n 0, 1) := by decide +kernel
theorem dX12_query_129 : decode cX12_query 129 = .ok (.getfield 9, 3) := by decide +kernel
theorem dX12_query_132 : decode cX12_query 132 = .ok (.iconst 3, 1) := by decide +kernel
theorem dX12_query_133 : decode cX12_query 133 = .ok (.aload_n 0, 1) := by decide +kernel
theorem dX12_query_134 : decode cX12_query 134 = .ok (.getfield 9, 3) := by decide +kernel
theorem dX12_query_137 : decode cX12_query 137 = .ok (.iconst 2, 1) := by decide +kernel
theorem dX12_query_138 : decode cX12_query 138 = .ok (.iaload, 1) := by decide +kernel
theorem dX12_query_139 : decode cX12_query 139 = .ok (.iadd, 1) := by decide +kernel
theorem dX12_query_140 : decode cX12_query 140 = .ok (.iaload, 1) := by decide +kernel
theorem dX12_query_141 : decode cX12_query 141 = .ok (.if_icmp .ge 31, 3) := by decide +kernel
theorem dX12_query_144 : decode cX12_query 144 = .ok (.aload_n 0, 1) := by decide +kernel
theorem dX12_query_145 : decode cX12_query 145 = .ok (.iload 4, 2) := by decide +kernel
theorem dX12_query_147 : decode cX12_query 147 = .ok (.invokevirtual 540, 3) := by decide +kernel
theorem dX12_query_150 : decode cX12_query 150 = .ok (.ifCond .ne 6, 3) := by decide +kernel
theorem dX12_query_153 : decode cX12_query 153 = .ok (.goto 13, 3) := by decide +kernel
theorem dX12_query_156 : decode cX12_query 156 = .ok (.iload_n 2, 1) := by decide +kernel
theorem dX12_query_157 : decode cX12_query 157 = .ok (.ifCond .eq 6, 3) := by decide +kernel
theorem dX12_query_160 : decode cX12_query 160 = .ok (.iload 4, 2) := by decide +kernel
theorem dX12_query_162 : decode cX12_query 162 = .ok (.ireturn, 1) := by decide +kernel
theorem dX12_query_163 : decode cX12_query 163 = .ok (.iinc 3 1, 3) := by decide +kernel
theorem dX12_query_166 : decode cX12_query 166 = .ok (.iinc 4 1, 3) := by decide +kernel
theorem dX12_query_169 : decode cX12_query 169 = .ok (.goto (-43), 3) := by decide +kernel
theorem dX12_query_172 : decode cX12_query 172 = .ok (.iload_n 2, 1) := by decide +kernel
theorem dX12_query_173 : decode cX12_query 173 = .ok (.ifCond .eq 7, 3) := by decide +kernel
theorem dX12_query_176 : decode cX12_query 176 = .ok (.iconst (-1), 1) := by decide +kernel
theorem dX12_query_177 : decode cX12_query 177 = .ok (.goto 4, 3) := by decide +kernel
theorem dX12_query_180 : decode cX12_query 180 = .ok (.iload_n 3, 1) := by decide +kernel
theorem dX12_query_181 : decode cX12_query 181 = .ok (.ireturn, 1) := by decide +kernel
set_option maxRecDepth 100000 in
theorem t_X12_query_126 (G : MG) (hG : (g_l G).stackTraces = false) (d : Nat) (hd : 31 ≤ d)    : ∀ (n : Nat) (σ : MsSt) (l0 : Nat) (l2 : Int32) (l3 : Int32) (l4 : Int32) (h0 : ms_kd l0 = 13), TrO G mX12_query d 0 0 0 0 ms_wi 126 [(0, .ref l0), (2, .int l2), (3, .int l3), (4, .int l4)] [] σ (f_X12_query_126 n σ l0 l2 l3 l4) := by
  intro n
  induction n with
  | zero => exact fun _ _ _ _ _ _ => tr_none
  | succ n ih =>
    intro σ l0 l2 l3 l4 h0
    show TrO G mX12_query d 0 0 0 0 ms_wi 126 [(0, .ref l0), (2, .int l2), (3, .int l3), (4, .int l4)] [] σ ((ms_ald σ (ms_rf l0 0) 2).bind fun v12 => (ms_ald σ (ms_rf l0 0) (3 + v12)).bind fun v13 => if l4 < v13 then ms_b2 (f_X12_holdsFor σ l0 l4) fun v14 s15 => if v14 = 0 then (f_X12_query_126 n) s15 l0 l2 l3 (l4 + 1) else if l2 = 0 then (f_X12_query_126 n) s15 l0 l2 (l3 + 1) (l4 + 1) else some (l4, s15) else if l2 = 0 then some (l3, σ) else some ((-1), σ))
    refine tr_iload (i := 3) dX12_query_126 rfl ?_
    refine tr_aload_n (i := 0) dX12_query_128 rfl ?_
    refine tr_getR 12 h0 fl_X12_9 (by decide +kernel) dX12_query_129 ?_
    refine tr_iconst (v := 3) dX12_query_132 (by decide +kernel) ?_
    refine tr_aload_n (i := 0) dX12_query_133 rfl ?_
    refine tr_getR 12 h0 fl_X12_9 (by decide +kernel) dX12_query_134 ?_
    refine tr_iconst (v := 2) dX12_query_137 (by decide +kernel) ?_
    refine tr_ald (rk_12_0 h0) dX12_query_138 (fun v12 => ?_)
    refine tr_iadd dX12_query_139 ?_
    refine tr_ald (rk_12_0 h0) dX12_query_140 (fun v13 => ?_)
    refine tr_icge (o := none) (tgt := 172) dX12_query_141 (by decide) ?_ ?_
    · refine tr_iload_n (i := 1) dX12_query_172 rfl ?_
      refine tr_ifeq (o := none) (tgt := 180) dX12_query_173 (by decide) ?_ ?_
      · refine tr_iload_n (i := 2) dX12_query_180 rfl ?_
        exact tr_iret rfl rfl (by decide) (by decide) dX12_query_181
      · refine tr_iconst (v := (-1)) dX12_query_176 (by decide +kernel) ?_
        refine tr_goto (tgt := 181) dX12_query_177 (by decide) ?_
        exact tr_iret rfl rfl (by decide) (by decide) dX12_query_181
    · refine tr_aload_n (i := 0) dX12_query_144 rfl ?_
      refine tr_iload (i := 3) dX12_query_145 rfl ?_
      refine tr_d_wi (ms_cV (rest := []) (al := [.int l4]) 12 (sp_X12_holdsFor G hG (d - 1) (by omega) σ l0 l4 h0) h0 (by decide +kernel) kl_X12_540 fv_X12_holdsFor dX12_query_147 (show _ = some 1 by decide +kernel) (by omega) (Nat.le_of_ble_eq_true rfl) (by decide) (by decide)) (fun v14 s15 => ?_)
      refine tr_ifne (o := none) (tgt := 156) dX12_query_150 (by decide) ?_ ?_
      · refine tr_iload_n (i := 1) dX12_query_156 rfl ?_
        refine tr_ifeq (o := none) (tgt := 163) dX12_query_157 (by decide) ?_ ?_
        · refine tr_iinc (k := 2) (v := (l3 + 1)) (lv' := [(0, .ref l0), (2, .int l2), (3, .int (l3 + 1)), (4, .int l4)]) [1, 2, 0, 3] dX12_query_163 rfl rfl (by decide) rfl ?_
          refine tr_iinc (k := 3) (v := (l4 + 1)) (lv' := [(0, .ref l0), (2, .int l2), (3, .int (l3 + 1)), (4, .int (l4 + 1))]) [1, 2, 3, 0] dX12_query_166 rfl rfl (by decide) rfl ?_
          refine tr_goto (tgt := 126) dX12_query_169 (by decide) ?_
          exact (fun s y0 y1 y2 y3 g0 => ih s y0 y1 y2 y3 g0) s15 l0 l2 (l3 + 1) (l4 + 1) h0
        · refine tr_iload (i := 3) dX12_query_160 rfl ?_
          exact tr_iret rfl rfl (by decide) (by decide) dX12_query_162
      · refine tr_goto (tgt := 166) dX12_query_153 (by decide) ?_
        refine tr_iinc (k := 3) (v := (l4 + 1)) (lv' := [(0, .ref l0), (2, .int l2), (3, .int l3), (4, .int (l4 + 1))]) [1, 2, 3, 0] dX12_query_166 rfl rfl (by decide) rfl ?_
        refine tr_goto (tgt := 126) dX12_query_169 (by decide) ?_
        exact (fun s y0 y1 y2 y3 g0 => ih s y0 y1 y2 y3 g0) s15 l0 l2 l3 (l4 + 1) h0
set_option maxRecDepth 100000 in
theorem t_X12_query_101 (G : MG) (hG : (g_l G).stackTraces = false) (d : Nat) (hd : 31 ≤ d)    (σ : MsSt) (l0 : Nat) (l2 : Int32) (t0 : Int32) (t1 : Nat) (h0 : ms_kd l0 = 13) (ht1 : ms_kd t1 = 13) : TrO G mX12_query d 0 0 0 0 ms_wi 101 [(0, .ref l0), (2, .int l2)] [.int t0, .ref t1] σ (f_X12_query_101 σ l0 l2 t0 t1) := by
  show TrO G mX12_query d 0 0 0 0 ms_wi 101 [(0, .ref l0), (2, .int l2)] [.int t0, .ref t1] σ ((f_X12_check σ t1 t0 1).bind fun s9 => ms_b2 (f_X12_finish s9 l0) fun v10 s11 => if v10 = 0 then f_X12_query_126 ms_fuel s11 l0 l2 0 0 else some (((-1000000000) - (ms_i s11 l0 32)), s11))
  refine tr_iconst (v := 1) dX12_query_101 (by decide +kernel) ?_
  refine tr_c_wv (ms_cV (rest := []) (al := [.int t0, .int 1]) 12 (sp_X12_check G hG (d - 1) (by omega) σ t1 t0 1 ht1) ht1 (by decide +kernel) kl_X12_410 fv_X12_check dX12_query_102 (show _ = some 2 by decide +kernel) (by omega) (Nat.le_of_ble_eq_true rfl) (by decide) (by decide)) (fun s9 => ?_)
  refine tr_aload_n (i := 0) dX12_query_105 rfl ?_
  refine tr_d_wi (ms_cV (rest := []) (al := []) 12 (sp_X12_finish G hG (d - 1) (by omega) s9 l0 h0) h0 (by decide +kernel) kl_X12_499 fv_X12_finish dX12_query_106 (show _ = some 0 by decide +kernel) (by omega) (Nat.le_of_ble_eq_true rfl) (by decide) (by decide)) (fun v10 s11 => ?_)
  refine tr_ifeq (o := none) (tgt := 121) dX12_query_109 (by decide) ?_ ?_
  · refine tr_iconst (v := 0) dX12_query_121 (by decide +kernel) ?_
    refine tr_istore_n (lv' := [(0, .ref l0), (2, .int l2), (3, .int 0)]) [1, 2, 0] dX12_query_122 (by decide) rfl ?_
    refine tr_iconst (v := 0) dX12_query_123 (by decide +kernel) ?_
    refine tr_istore (lv' := [(0, .ref l0), (2, .int l2), (3, .int 0), (4, .int 0)]) [1, 2, 3, 0] dX12_query_124 (by decide) rfl ?_
    exact t_X12_query_126 G hG d hd ms_fuel s11 l0 l2 0 0 h0
  · refine tr_ldciw (v := (-1000000000)) (List.mem_of_getElem? (i := 2336) (by decide +kernel)) dX12_query_112 ?_
    refine tr_aload_n (i := 0) dX12_query_115 rfl ?_
    refine tr_getI 12 h0 fl_X12_384 (by decide +kernel) dX12_query_116 ?_
    refine tr_isub dX12_query_119 ?_
    exact tr_iret rfl rfl (by decide) (by decide) dX12_query_120
set_option maxRecDepth 100000 in
theorem t_X12_query_96 (G : MG) (hG : (g_l G).stackTraces = false) (d : Nat) (hd : 31 ≤ d)    (σ : MsSt) (l0 : Nat) (l2 : Int32) (t0 : Nat) (h0 : ms_kd l0 = 13) (ht0 : ms_kd t0 = 13) : TrO G mX12_query d 0 0 0 0 ms_wi 96 [(0, .ref l0), (2, .int l2)] [.ref t0] σ (f_X12_query_96 σ l0 l2 t0) := by
  show TrO G mX12_query d 0 0 0 0 ms_wi 96 [(0, .ref l0), (2, .int l2)] [.ref t0] σ (f_X12_query_101 σ l0 l2 1 t0)
  refine tr_iconst (v := 1) dX12_query_96 (by decide +kernel) ?_
  refine tr_goto (tgt := 101) dX12_query_97 (by decide) ?_
  exact t_X12_query_101 G hG d hd σ l0 l2 1 t0 h0 ht0
set_option maxRecDepth 100000 in
theorem t_X12_query_69 (G : MG) (hG : (g_l G).stackTraces = false) (d : Nat) (hd : 31 ≤ d)    (σ : MsSt) (l0 : Nat) (l2 : Int32) (t0 : Int32) (t1 : Nat) (h0 : ms_kd l0 = 13) (ht1 : ms_kd t1 = 13) : TrO G mX12_query d 0 0 0 0 ms_wi 69 [(0, .ref l0), (2, .int l2)] [.int t0, .ref t1] σ (f_X12_query_69 σ l0 l2 t0 t1) := by
  show TrO G mX12_query d 0 0 0 0 ms_wi 69 [(0, .ref l0), (2, .int l2)] [.int t0, .ref t1] σ ((f_X12_check σ t1 t0 1).bind fun s6 => (f_X12_advance s6 l0).bind fun s7 => (f_X12_compileTest (rec_X12_compileFactor 7) s7 l0).bind fun s8 => if (ms_i s8 l0 32) = 0 then if (ms_i s8 l0 31) = 0 then f_X12_query_96 s8 l0 l2 l0 else f_X12_query_101 s8 l0 l2 0 l0 else f_X12_query_96 s8 l0 l2 l0)
  refine tr_iconst (v := 1) dX12_query_69 (by decide +kernel) ?_
  refine tr_c_wv (ms_cV (rest := []) (al := [.int t0, .int 1]) 12 (sp_X12_check G hG (d - 1) (by omega) σ t1 t0 1 ht1) ht1 (by decide +kernel) kl_X12_410 fv_X12_check dX12_query_70 (show _ = some 2 by decide +kernel) (by omega) (Nat.le_of_ble_eq_true rfl) (by decide) (by decide)) (fun s6 => ?_)
  refine tr_aload_n (i := 0) dX12_query_73 rfl ?_
  refine tr_c_wv (ms_cV (rest := []) (al := []) 12 (sp_X12_advance G hG (d - 1) (by omega) s6 l0 h0) h0 (by decide +kernel) kl_X12_414 fv_X12_advance dX12_query_74 (show _ = some 0 by decide +kernel) (by omega) (Nat.le_of_ble_eq_true rfl) (by decide) (by decide)) (fun s7 => ?_)
  refine tr_aload_n (i := 0) dX12_query_77 rfl ?_
  refine tr_c_wv (ms_cV (rest := []) (al := []) 12 (sp_X12_compileTest G hG (d - 1) (by omega) (rec_X12_compileFactor 7) (d - 3) (by omega) (fun s x => rc_X12_compileFactor G hG 7 (d - 3) (by omega) s x) s7 l0 h0) h0 (by decide +kernel) kl_X12_516 fv_X12_compileTest dX12_query_78 (show _ = some 0 by decide +kernel) (by omega) (Nat.le_of_ble_eq_true rfl) (by decide) (by decide)) (fun s8 => ?_)
  refine tr_aload_n (i := 0) dX12_query_81 rfl ?_
  refine tr_aload_n (i := 0) dX12_query_82 rfl ?_
  refine tr_getI 12 h0 fl_X12_384 (by decide +kernel) dX12_query_83 ?_
  refine tr_ifne (o := none) (tgt := 96) dX12_query_86 (by decide) ?_ ?_
  · exact t_X12_query_96 G hG d hd s8 l0 l2 l0 h0 h0
  · refine tr_aload_n (i := 0) dX12_query_89 rfl ?_
    refine tr_getI 12 h0 fl_X12_375 (by decide +kernel) dX12_query_90 ?_
    refine tr_ifne (o := none) (tgt := 100) dX12_query_93 (by decide) ?_ ?_
    · refine tr_iconst (v := 0) dX12_query_100 (by decide +kernel) ?_
      exact t_X12_query_101 G hG d hd s8 l0 l2 0 l0 h0 h0
    · exact t_X12_query_96 G hG d hd s8 l0 l2 l0 h0 h0
set_option maxRecDepth 100000 in
theorem t_X12_query_64 (G : MG) (hG : (g_l G).stackTraces = false) (d : Nat) (hd : 31 ≤ d)    (σ : MsSt) (l0 : Nat) (l2 : Int32) (t0 : Nat) (h0 : ms_kd l0 = 13) (ht0 : ms_kd t0 = 13) : TrO G mX12_query d 0 0 0 0 ms_wi 64 [(0, .ref l0), (2, .int l2)] [.ref t0] σ (f_X12_query_64 σ l0 l2 t0) := by
  show TrO G mX12_query d 0 0 0 0 ms_wi 64 [(0, .ref l0), (2, .int l2)] [.ref t0] σ (f_X12_query_69 σ l0 l2 1 t0)
  refine tr_iconst (v := 1) dX12_query_64 (by decide +kernel) ?_
  refine tr_goto (tgt := 69) dX12_query_65 (by decide) ?_
  exact t_X12_query_69 G hG d hd σ l0 l2 1 t0 h0 ht0
set_option maxRecDepth 100000 in
theorem sp_X12_query (G : MG) (hG : (g_l G).stackTraces = false) (d : Nat) (hd : 31 ≤ d)   (σ : MsSt) (l0 : Nat) (l1 : Int32) (h0 : ms_kd l0 = 13) : MsSpec G mX12_query d 0 0 [.ref l0, .int l1] σ ms_wi (f_X12_query σ l0 l1) := by
  refine ms_start (by decide +kernel) rfl rfl (Nat.le_of_ble_eq_true rfl) ?_
  show TrO G mX12_query d 0 0 0 0 ms_wi 0 [(0, .ref l0), (1, .int l1)] [] σ (ms_nm (ms_si σ l0 7 0) fun s1 => (f_X12_inRange s1 l1.toInt64 0 ((if 200 < (ms_i s1 l0 27) then 200 else (ms_i s1 l0 27)).toInt64)).bind fun v2 => if v2 = 0 then ms_b2 (f_X12_raise s1 l0 1) fun v17 s18 => some (v17, s18) else ms_nm (ms_si s1 l0 40 0) fun s3 => (f_X12_startText s3 l0 l1).bind fun s4 => (f_X12_isWord s4 l0 645).bind fun v5 => if v5 = 0 then (f_X12_isWord s4 l0 646).bind fun v16 => if v16 = 0 then f_X12_query_69 s4 l0 v5 0 l0 else f_X12_query_64 s4 l0 v5 l0 else f_X12_query_64 s4 l0 v5 l0)
  refine tr_aload_n (i := 0) dX12_query_0 rfl ?_
  refine tr_iconst (v := 0) dX12_query_1 (by decide +kernel) ?_
  refine tr_putI 12 h0 fl_X12_107 (by decide +kernel) dX12_query_2 ?_
  refine ms_ltS (fun s1 => ?_)
  refine tr_iload_n (i := 1) dX12_query_5 rfl ?_
  refine tr_i2l dX12_query_6 ?_
  refine tr_lconst (v := 0) dX12_query_7 (by decide +kernel) ?_
  refine tr_aload_n (i := 0) dX12_query_8 rfl ?_
  refine tr_getI 12 h0 fl_X12_360 (by decide +kernel) dX12_query_9 ?_
  refine tr_sipush (v := 200) dX12_query_12 (by decide +kernel) ?_
  refine tr_mmin (List.mem_of_getElem? (i := 1917) (by decide +kernel)) (List.mem_of_getElem? (i := 786) (by decide +kernel)) (List.mem_of_getElem? (i := 144) (by decide +kernel)) (List.mem_of_getElem? (i := 787) (by decide +kernel)) (by omega) (Nat.le_of_ble_eq_true rfl) (by decide) (by decide) dX12_query_15 ?_
  refine tr_i2l dX12_query_18 ?_
  refine tr_c_i (ms_cS (rest := []) (al := [.long l1.toInt64, .long 0, .long ((if 200 < (ms_i s1 l0 27) then 200 else (ms_i s1 l0 27)).toInt64)]) (sp_X12_inRange G hG (d - 1) (by omega) s1 l1.toInt64 0 ((if 200 < (ms_i s1 l0 27) then 200 else (ms_i s1 l0 27)).toInt64)) kl_X12_110 fs_X12_inRange dX12_query_19 (show _ = some 3 by decide +kernel) (by omega) (Nat.le_of_ble_eq_true rfl) (by decide) (by decide)) (fun v2 => ?_)
  refine tr_ifne (o := none) (tgt := 31) dX12_query_22 (by decide) ?_ ?_
  · refine tr_aload_n (i := 0) dX12_query_31 rfl ?_
    refine tr_iconst (v := 0) dX12_query_32 (by decide +kernel) ?_
    refine tr_putI 12 h0 fl_X12_502 (by decide +kernel) dX12_query_33 ?_
    refine ms_ltS (fun s3 => ?_)
    refine tr_aload_n (i := 0) dX12_query_36 rfl ?_
    refine tr_iload_n (i := 1) dX12_query_37 rfl ?_
    refine tr_c_wv (ms_cV (rest := []) (al := [.int l1]) 12 (sp_X12_startText G hG (d - 1) (by omega) s3 l0 l1 h0) h0 (by decide +kernel) kl_X12_493 fv_X12_startText dX12_query_38 (show _ = some 1 by decide +kernel) (by omega) (Nat.le_of_ble_eq_true rfl) (by decide) (by decide)) (fun s4 => ?_)
    refine tr_aload_n (i := 0) dX12_query_41 rfl ?_
    refine tr_ldcsw 45 (tx := "first") (by decide) (by decide +kernel) dX12_query_42 ?_
    refine tr_c_i (ms_cV (rest := []) (al := [.ref 645]) 12 (sp_X12_isWord G hG (d - 1) (by omega) s4 l0 645 h0 (⟨by decide, by decide⟩)) h0 (by decide +kernel) kl_X12_406 fv_X12_isWord dX12_query_45 (show _ = some 1 by decide +kernel) (by omega) (Nat.le_of_ble_eq_true rfl) (by decide) (by decide)) (fun v5 => ?_)
    refine tr_istore_n (lv' := [(0, .ref l0), (2, .int v5)]) [1, 0] dX12_query_48 (by decide) rfl ?_
    refine tr_aload_n (i := 0) dX12_query_49 rfl ?_
    refine tr_iload_n (i := 1) dX12_query_50 rfl ?_
    refine tr_ifne (o := none) (tgt := 64) dX12_query_51 (by decide) ?_ ?_
    · exact t_X12_query_64 G hG d hd s4 l0 v5 l0 h0 h0
    · refine tr_aload_n (i := 0) dX12_query_54 rfl ?_
      refine tr_ldcsw 46 (tx := "many") (by decide) (by decide +kernel) dX12_query_55 ?_
      refine tr_c_i (ms_cV (rest := [.ref l0]) (al := [.ref 646]) 12 (sp_X12_isWord G hG (d - 1) (by omega) s4 l0 646 h0 (⟨by decide, by decide⟩)) h0 (by decide +kernel) kl_X12_406 fv_X12_isWord dX12_query_58 (show _ = some 1 by decide +kernel) (by omega) (Nat.le_of_ble_eq_true rfl) (by decide) (by decide)) (fun v16 => ?_)
      refine tr_ifeq (o := none) (tgt := 68) dX12_query_61 (by decide) ?_ ?_
      · refine tr_iconst (v := 0) dX12_query_68 (by decide +kernel) ?_
        exact t_X12_query_69 G hG d hd s4 l0 v5 0 l0 h0 h0
      · exact t_X12_query_64 G hG d hd s4 l0 v5 l0 h0 h0
  · refine tr_aload_n (i := 0) dX12_query_25 rfl ?_
    refine tr_iconst (v := 1) dX12_query_26 (by decide +kernel) ?_
    refine tr_d_wi (ms_cV (rest := []) (al := [.int 1]) 12 (sp_X12_raise G hG (d - 1) (by omega) s1 l0 1 h0) h0 (by decide +kernel) kl_X12_230 fv_X12_raise dX12_query_27 (show _ = some 1 by decide +kernel) (by omega) (Nat.le_of_ble_eq_true rfl) (by decide) (by decide)) (fun v17 s18 => ?_)
    exact tr_iret rfl rfl (by decide) (by decide) dX12_query_30
