/-! X12: the bytecode does what the functions say (by program: wip/whole/gen) -/
theorem dX12_thrown_0 : decode cX12_thrown 0 = .ok (.aload_n 0, 1) := by decide +kernel
theorem dX12_thrown_1 : decode cX12_thrown 1 = .ok (.getfield 107, 3) := by decide +kernel
theorem dX12_thrown_4 : decode cX12_thrown 4 = .ok (.ireturn, 1) := by decide +kernel
set_option maxRecDepth 100000 in
theorem sp_X12_thrown (G : MG) (hG : (g_l G).stackTraces = false) (d : Nat) (hd : 0 ≤ d)   (σ : MsSt) (l0 : Nat) (h0 : ms_kd l0 = 13) : MsSpec G mX12_thrown d 0 0 [.ref l0] σ (ms_ki σ) (f_X12_thrown σ l0) := by
  refine ms_start (by decide +kernel) rfl rfl (Nat.le_of_ble_eq_true rfl) ?_
  show TrO G mX12_thrown d 0 0 0 0 (ms_ki σ) 0 [(0, .ref l0)] [] σ (some (ms_i σ l0 7))
  refine tr_aload_n (i := 0) dX12_thrown_0 rfl ?_
  refine tr_getI 12 h0 fl_X12_107 (by decide +kernel) dX12_thrown_1 ?_
  exact tr_iret rfl rfl (by decide) (by decide) dX12_thrown_4
theorem dX12_raise_0 : decode cX12_raise 0 = .ok (.aload_n 0, 1) := by decide +kernel
theorem dX12_raise_1 : decode cX12_raise 1 = .ok (.iload_n 1, 1) := by decide +kernel
theorem dX12_raise_2 : decode cX12_raise 2 = .ok (.putfield 107, 3) := by decide +kernel
theorem dX12_raise_5 : decode cX12_raise 5 = .ok (.iconst 0, 1) := by decide +kernel
theorem dX12_raise_6 : decode cX12_raise 6 = .ok (.ireturn, 1) := by decide +kernel
set_option maxRecDepth 100000 in
theorem sp_X12_raise (G : MG) (hG : (g_l G).stackTraces = false) (d : Nat) (hd : 0 ≤ d)   (σ : MsSt) (l0 : Nat) (l1 : Int32) (h0 : ms_kd l0 = 13) : MsSpec G mX12_raise d 0 0 [.ref l0, .int l1] σ ms_wi (f_X12_raise σ l0 l1) := by
  refine ms_start (by decide +kernel) rfl rfl (Nat.le_of_ble_eq_true rfl) ?_
  show TrO G mX12_raise d 0 0 0 0 ms_wi 0 [(0, .ref l0), (1, .int l1)] [] σ (ms_nm (ms_si σ l0 7 l1) fun s1 => some (0, s1))
  refine tr_aload_n (i := 0) dX12_raise_0 rfl ?_
  refine tr_iload_n (i := 1) dX12_raise_1 rfl ?_
  refine tr_putI 12 h0 fl_X12_107 (by decide +kernel) dX12_raise_2 ?_
  refine ms_ltS (fun s1 => ?_)
  refine tr_iconst (v := 0) dX12_raise_5 (by decide +kernel) ?_
  exact tr_iret rfl rfl (by decide) (by decide) dX12_raise_6
theorem dX12_inRange_0 : decode cX12_inRange 0 = .ok (.lload_n 0, 1) := by decide +kernel
theorem dX12_inRange_1 : decode cX12_inRange 1 = .ok (.lload_n 2, 1) := by decide +kernel
theorem dX12_inRange_2 : decode cX12_inRange 2 = .ok (.lcmp, 1) := by decide +kernel
theorem dX12_inRange_3 : decode cX12_inRange 3 = .ok (.ifCond .lt 14, 3) := by decide +kernel
theorem dX12_inRange_6 : decode cX12_inRange 6 = .ok (.lload_n 0, 1) := by decide +kernel
theorem dX12_inRange_7 : decode cX12_inRange 7 = .ok (.lload 4, 2) := by decide +kernel
theorem dX12_inRange_9 : decode cX12_inRange 9 = .ok (.lcmp, 1) := by decide +kernel
theorem dX12_inRange_10 : decode cX12_inRange 10 = .ok (.ifCond .gt 7, 3) := by decide +kernel
theorem dX12_inRange_13 : decode cX12_inRange 13 = .ok (.iconst 1, 1) := by decide +kernel
theorem dX12_inRange_14 : decode cX12_inRange 14 = .ok (.goto 4, 3) := by decide +kernel
theorem dX12_inRange_17 : decode cX12_inRange 17 = .ok (.iconst 0, 1) := by decide +kernel
theorem dX12_inRange_18 : decode cX12_inRange 18 = .ok (.ireturn, 1) := by decide +kernel
set_option maxRecDepth 100000 in
theorem sp_X12_inRange (G : MG) (hG : (g_l G).stackTraces = false) (d : Nat) (hd : 0 ≤ d)   (σ : MsSt) (l0 : Int64) (l2 : Int64) (l4 : Int64) : MsSpec G mX12_inRange d 0 0 [.long l0, .long l2, .long l4] σ (ms_ki σ) (f_X12_inRange σ l0 l2 l4) := by
  refine ms_start (by decide +kernel) rfl rfl (Nat.le_of_ble_eq_true rfl) ?_
  show TrO G mX12_inRange d 0 0 0 0 (ms_ki σ) 0 [(0, .long l0), (2, .long l2), (4, .long l4)] [] σ (if (lg_cmp l0 l2) < 0 then some 0 else if 0 < (lg_cmp l0 l4) then some 0 else some 1)
  refine tr_lload_n (i := 0) dX12_inRange_0 rfl ?_
  refine tr_lload_n (i := 1) dX12_inRange_1 rfl ?_
  refine tr_lcmp dX12_inRange_2 ?_
  refine tr_iflt (o := none) (tgt := 17) dX12_inRange_3 (by decide) ?_ ?_
  · refine tr_iconst (v := 0) dX12_inRange_17 (by decide +kernel) ?_
    exact tr_zret rfl (by decide +kernel) rfl (by decide) (by decide) dX12_inRange_18
  · refine tr_lload_n (i := 0) dX12_inRange_6 rfl ?_
    refine tr_lload (i := 2) dX12_inRange_7 rfl ?_
    refine tr_lcmp dX12_inRange_9 ?_
    refine tr_ifgt (o := none) (tgt := 17) dX12_inRange_10 (by decide) ?_ ?_
    · refine tr_iconst (v := 0) dX12_inRange_17 (by decide +kernel) ?_
      exact tr_zret rfl (by decide +kernel) rfl (by decide) (by decide) dX12_inRange_18
    · refine tr_iconst (v := 1) dX12_inRange_13 (by decide +kernel) ?_
      refine tr_goto (tgt := 18) dX12_inRange_14 (by decide) ?_
      exact tr_zret rfl (by decide +kernel) rfl (by decide) (by decide) dX12_inRange_18
theorem dX12_of_0 : decode cX12_of 0 = .ok (.sipush 247, 3) := by decide +kernel
theorem dX12_of_3 : decode cX12_of 3 = .ok (.bipush 7, 2) := by decide +kernel
theorem dX12_of_5 : decode cX12_of 5 = .ok (.iload_n 0, 1) := by decide +kernel
theorem dX12_of_6 : decode cX12_of 6 = .ok (.imul, 1) := by decide +kernel
theorem dX12_of_7 : decode cX12_of 7 = .ok (.iadd, 1) := by decide +kernel
theorem dX12_of_8 : decode cX12_of 8 = .ok (.iload_n 1, 1) := by decide +kernel
theorem dX12_of_9 : decode cX12_of 9 = .ok (.iadd, 1) := by decide +kernel
theorem dX12_of_10 : decode cX12_of 10 = .ok (.ireturn, 1) := by decide +kernel
set_option maxRecDepth 100000 in
theorem sp_X12_of (G : MG) (hG : (g_l G).stackTraces = false) (d : Nat) (hd : 0 ≤ d)   (σ : MsSt) (l0 : Int32) (l1 : Int32) : MsSpec G mX12_of d 0 0 [.int l0, .int l1] σ (ms_ki σ) (f_X12_of σ l0 l1) := by
  refine ms_start (by decide +kernel) rfl rfl (Nat.le_of_ble_eq_true rfl) ?_
  show TrO G mX12_of d 0 0 0 0 (ms_ki σ) 0 [(0, .int l0), (1, .int l1)] [] σ (some ((247 + (7 * l0)) + l1))
  refine tr_sipush (v := 247) dX12_of_0 (by decide +kernel) ?_
  refine tr_bipush (v := 7) dX12_of_3 (by decide +kernel) ?_
  refine tr_iload_n (i := 0) dX12_of_5 rfl ?_
  refine tr_imul dX12_of_6 ?_
  refine tr_iadd dX12_of_7 ?_
  refine tr_iload_n (i := 1) dX12_of_8 rfl ?_
  refine tr_iadd dX12_of_9 ?_
  exact tr_iret rfl rfl (by decide) (by decide) dX12_of_10
theorem dX12_spot_0 : decode cX12_spot 0 = .ok (.bipush 7, 2) := by decide +kernel
theorem dX12_spot_2 : decode cX12_spot 2 = .ok (.bipush 60, 2) := by decide +kernel
theorem dX12_spot_4 : decode cX12_spot 4 = .ok (.iload_n 0, 1) := by decide +kernel
theorem dX12_spot_5 : decode cX12_spot 5 = .ok (.imul, 1) := by decide +kernel
theorem dX12_spot_6 : decode cX12_spot 6 = .ok (.iadd, 1) := by decide +kernel
theorem dX12_spot_7 : decode cX12_spot 7 = .ok (.iload_n 1, 1) := by decide +kernel
theorem dX12_spot_8 : decode cX12_spot 8 = .ok (.iadd, 1) := by decide +kernel
theorem dX12_spot_9 : decode cX12_spot 9 = .ok (.ireturn, 1) := by decide +kernel
set_option maxRecDepth 100000 in
theorem sp_X12_spot (G : MG) (hG : (g_l G).stackTraces = false) (d : Nat) (hd : 0 ≤ d)   (σ : MsSt) (l0 : Int32) (l1 : Int32) : MsSpec G mX12_spot d 0 0 [.int l0, .int l1] σ (ms_ki σ) (f_X12_spot σ l0 l1) := by
  refine ms_start (by decide +kernel) rfl rfl (Nat.le_of_ble_eq_true rfl) ?_
  show TrO G mX12_spot d 0 0 0 0 (ms_ki σ) 0 [(0, .int l0), (1, .int l1)] [] σ (some ((7 + (60 * l0)) + l1))
  refine tr_bipush (v := 7) dX12_spot_0 (by decide +kernel) ?_
  refine tr_bipush (v := 60) dX12_spot_2 (by decide +kernel) ?_
  refine tr_iload_n (i := 0) dX12_spot_4 rfl ?_
  refine tr_imul dX12_spot_5 ?_
  refine tr_iadd dX12_spot_6 ?_
  refine tr_iload_n (i := 1) dX12_spot_7 rfl ?_
  refine tr_iadd dX12_spot_8 ?_
  exact tr_iret rfl rfl (by decide) (by decide) dX12_spot_9
theorem dX12_isSign_0 : decode cX12_isSign 0 = .ok (.iload_n 1, 1) := by decide +kernel
theorem dX12_isSign_1 : decode cX12_isSign 1 = .ok (.i2l, 1) := by decide +kernel
theorem dX12_isSign_2 : decode cX12_isSign 2 = .ok (.lconst 0, 1) := by decide +kernel
theorem dX12_isSign_3 : decode cX12_isSign 3 = .ok (.aload_n 0, 1) := by decide +kernel
theorem dX12_isSign_4 : decode cX12_isSign 4 = .ok (.getfield 9, 3) := by decide +kernel
theorem dX12_isSign_7 : decode cX12_isSign 7 = .ok (.iconst 0, 1) := by decide +kernel
theorem dX12_isSign_8 : decode cX12_isSign 8 = .ok (.iaload, 1) := by decide +kernel
theorem dX12_isSign_9 : decode cX12_isSign 9 = .ok (.iconst 1, 1) := by decide +kernel
theorem dX12_isSign_10 : decode cX12_isSign 10 = .ok (.isub, 1) := by decide +kernel
theorem dX12_isSign_11 : decode cX12_isSign 11 = .ok (.i2l, 1) := by decide +kernel
theorem dX12_isSign_12 : decode cX12_isSign 12 = .ok (.invokestatic 110, 3) := by decide +kernel
theorem dX12_isSign_15 : decode cX12_isSign 15 = .ok (.ireturn, 1) := by decide +kernel
set_option maxRecDepth 100000 in
theorem sp_X12_isSign (G : MG) (hG : (g_l G).stackTraces = false) (d : Nat) (hd : 1 ≤ d)   (σ : MsSt) (l0 : Nat) (l1 : Int32) (h0 : ms_kd l0 = 13) : MsSpec G mX12_isSign d 0 0 [.ref l0, .int l1] σ (ms_ki σ) (f_X12_isSign σ l0 l1) := by
  refine ms_start (by decide +kernel) rfl rfl (Nat.le_of_ble_eq_true rfl) ?_
  show TrO G mX12_isSign d 0 0 0 0 (ms_ki σ) 0 [(0, .ref l0), (1, .int l1)] [] σ ((ms_ald σ (ms_rf l0 0) 0).bind fun v1 => (f_X12_inRange σ l1.toInt64 0 ((v1 - 1).toInt64)).bind fun v2 => (ms_bz v2).bind fun v3 => some v3)
  refine tr_iload_n (i := 1) dX12_isSign_0 rfl ?_
  refine tr_i2l dX12_isSign_1 ?_
  refine tr_lconst (v := 0) dX12_isSign_2 (by decide +kernel) ?_
  refine tr_aload_n (i := 0) dX12_isSign_3 rfl ?_
  refine tr_getR 12 h0 fl_X12_9 (by decide +kernel) dX12_isSign_4 ?_
  refine tr_iconst (v := 0) dX12_isSign_7 (by decide +kernel) ?_
  refine tr_ald (rk_12_0 h0) dX12_isSign_8 (fun v1 => ?_)
  refine tr_iconst (v := 1) dX12_isSign_9 (by decide +kernel) ?_
  refine tr_isub dX12_isSign_10 ?_
  refine tr_i2l dX12_isSign_11 ?_
  refine tr_c_i (ms_cS (rest := []) (al := [.long l1.toInt64, .long 0, .long ((v1 - 1).toInt64)]) (sp_X12_inRange G hG (d - 1) (by omega) σ l1.toInt64 0 ((v1 - 1).toInt64)) kl_X12_110 fs_X12_inRange dX12_isSign_12 (show _ = some 3 by decide +kernel) (by omega) (Nat.le_of_ble_eq_true rfl) (by decide) (by decide)) (fun v2 => ?_)
  exact tr_bret rfl rfl rfl (by decide) (by decide) dX12_isSign_15
theorem dX12_isOfKind_0 : decode cX12_isOfKind 0 = .ok (.aload_n 0, 1) := by decide +kernel
theorem dX12_isOfKind_1 : decode cX12_isOfKind 1 = .ok (.getfield 9, 3) := by decide +kernel
theorem dX12_isOfKind_4 : decode cX12_isOfKind 4 = .ok (.iload_n 1, 1) := by decide +kernel
theorem dX12_isOfKind_5 : decode cX12_isOfKind 5 = .ok (.iconst 0, 1) := by decide +kernel
theorem dX12_isOfKind_6 : decode cX12_isOfKind 6 = .ok (.invokestatic 114, 3) := by decide +kernel
theorem dX12_isOfKind_9 : decode cX12_isOfKind 9 = .ok (.iaload, 1) := by decide +kernel
theorem dX12_isOfKind_10 : decode cX12_isOfKind 10 = .ok (.iload_n 2, 1) := by decide +kernel
theorem dX12_isOfKind_11 : decode cX12_isOfKind 11 = .ok (.if_icmp .ne 7, 3) := by decide +kernel
theorem dX12_isOfKind_14 : decode cX12_isOfKind 14 = .ok (.iconst 1, 1) := by decide +kernel
theorem dX12_isOfKind_15 : decode cX12_isOfKind 15 = .ok (.goto 4, 3) := by decide +kernel
theorem dX12_isOfKind_18 : decode cX12_isOfKind 18 = .ok (.iconst 0, 1) := by decide +kernel
theorem dX12_isOfKind_19 : decode cX12_isOfKind 19 = .ok (.ireturn, 1) := by decide +kernel
set_option maxRecDepth 100000 in
theorem sp_X12_isOfKind (G : MG) (hG : (g_l G).stackTraces = false) (d : Nat) (hd : 1 ≤ d)   (σ : MsSt) (l0 : Nat) (l1 : Int32) (l2 : Int32) (h0 : ms_kd l0 = 13) : MsSpec G mX12_isOfKind d 0 0 [.ref l0, .int l1, .int l2] σ (ms_ki σ) (f_X12_isOfKind σ l0 l1 l2) := by
  refine ms_start (by decide +kernel) rfl rfl (Nat.le_of_ble_eq_true rfl) ?_
  show TrO G mX12_isOfKind d 0 0 0 0 (ms_ki σ) 0 [(0, .ref l0), (1, .int l1), (2, .int l2)] [] σ ((f_X12_of σ l1 0).bind fun v1 => (ms_ald σ (ms_rf l0 0) v1).bind fun v2 => if v2 = l2 then some 1 else some 0)
  refine tr_aload_n (i := 0) dX12_isOfKind_0 rfl ?_
  refine tr_getR 12 h0 fl_X12_9 (by decide +kernel) dX12_isOfKind_1 ?_
  refine tr_iload_n (i := 1) dX12_isOfKind_4 rfl ?_
  refine tr_iconst (v := 0) dX12_isOfKind_5 (by decide +kernel) ?_
  refine tr_c_i (ms_cS (rest := [.ref (ms_rf l0 0)]) (al := [.int l1, .int 0]) (sp_X12_of G hG (d - 1) (by omega) σ l1 0) kl_X12_114 fs_X12_of dX12_isOfKind_6 (show _ = some 2 by decide +kernel) (by omega) (Nat.le_of_ble_eq_true rfl) (by decide) (by decide)) (fun v1 => ?_)
  refine tr_ald (rk_12_0 h0) dX12_isOfKind_9 (fun v2 => ?_)
  refine tr_iload_n (i := 2) dX12_isOfKind_10 rfl ?_
  refine tr_icne (o := none) (tgt := 18) dX12_isOfKind_11 (by decide) ?_ ?_
  · refine tr_iconst (v := 0) dX12_isOfKind_18 (by decide +kernel) ?_
    exact tr_zret rfl (by decide +kernel) rfl (by decide) (by decide) dX12_isOfKind_19
  · refine tr_iconst (v := 1) dX12_isOfKind_14 (by decide +kernel) ?_
    refine tr_goto (tgt := 19) dX12_isOfKind_15 (by decide) ?_
    exact tr_zret rfl (by decide +kernel) rfl (by decide) (by decide) dX12_isOfKind_19
theorem dX12_isLine_0 : decode cX12_isLine 0 = .ok (.iload_n 1, 1) := by decide +kernel
theorem dX12_isLine_1 : decode cX12_isLine 1 = .ok (.i2l, 1) := by decide +kernel
theorem dX12_isLine_2 : decode cX12_isLine 2 = .ok (.lconst 0, 1) := by decide +kernel
theorem dX12_isLine_3 : decode cX12_isLine 3 = .ok (.aload_n 0, 1) := by decide +kernel
theorem dX12_isLine_4 : decode cX12_isLine 4 = .ok (.getfield 9, 3) := by decide +kernel
theorem dX12_isLine_7 : decode cX12_isLine 7 = .ok (.iconst 1, 1) := by decide +kernel
theorem dX12_isLine_8 : decode cX12_isLine 8 = .ok (.iaload, 1) := by decide +kernel
theorem dX12_isLine_9 : decode cX12_isLine 9 = .ok (.iconst 1, 1) := by decide +kernel
theorem dX12_isLine_10 : decode cX12_isLine 10 = .ok (.isub, 1) := by decide +kernel
theorem dX12_isLine_11 : decode cX12_isLine 11 = .ok (.i2l, 1) := by decide +kernel
theorem dX12_isLine_12 : decode cX12_isLine 12 = .ok (.invokestatic 110, 3) := by decide +kernel
theorem dX12_isLine_15 : decode cX12_isLine 15 = .ok (.ireturn, 1) := by decide +kernel
set_option maxRecDepth 100000 in
theorem sp_X12_isLine (G : MG) (hG : (g_l G).stackTraces = false) (d : Nat) (hd : 1 ≤ d)   (σ : MsSt) (l0 : Nat) (l1 : Int32) (h0 : ms_kd l0 = 13) : MsSpec G mX12_isLine d 0 0 [.ref l0, .int l1] σ (ms_ki σ) (f_X12_isLine σ l0 l1) := by
  refine ms_start (by decide +kernel) rfl rfl (Nat.le_of_ble_eq_true rfl) ?_
  show TrO G mX12_isLine d 0 0 0 0 (ms_ki σ) 0 [(0, .ref l0), (1, .int l1)] [] σ ((ms_ald σ (ms_rf l0 0) 1).bind fun v1 => (f_X12_inRange σ l1.toInt64 0 ((v1 - 1).toInt64)).bind fun v2 => (ms_bz v2).bind fun v3 => some v3)
  refine tr_iload_n (i := 1) dX12_isLine_0 rfl ?_
  refine tr_i2l dX12_isLine_1 ?_
  refine tr_lconst (v := 0) dX12_isLine_2 (by decide +kernel) ?_
  refine tr_aload_n (i := 0) dX12_isLine_3 rfl ?_
  refine tr_getR 12 h0 fl_X12_9 (by decide +kernel) dX12_isLine_4 ?_
  refine tr_iconst (v := 1) dX12_isLine_7 (by decide +kernel) ?_
  refine tr_ald (rk_12_0 h0) dX12_isLine_8 (fun v1 => ?_)
  refine tr_iconst (v := 1) dX12_isLine_9 (by decide +kernel) ?_
  refine tr_isub dX12_isLine_10 ?_
  refine tr_i2l dX12_isLine_11 ?_
  refine tr_c_i (ms_cS (rest := []) (al := [.long l1.toInt64, .long 0, .long ((v1 - 1).toInt64)]) (sp_X12_inRange G hG (d - 1) (by omega) σ l1.toInt64 0 ((v1 - 1).toInt64)) kl_X12_110 fs_X12_inRange dX12_isLine_12 (show _ = some 3 by decide +kernel) (by omega) (Nat.le_of_ble_eq_true rfl) (by decide) (by decide)) (fun v2 => ?_)
  exact tr_bret rfl rfl rfl (by decide) (by decide) dX12_isLine_15
theorem dX12_isPlace_0 : decode cX12_isPlace 0 = .ok (.aload_n 0, 1) := by decide +kernel
theorem dX12_isPlace_1 : decode cX12_isPlace 1 = .ok (.iload_n 1, 1) := by decide +kernel
theorem dX12_isPlace_2 : decode cX12_isPlace 2 = .ok (.invokevirtual 118, 3) := by decide +kernel
theorem dX12_isPlace_5 : decode cX12_isPlace 5 = .ok (.ifCond .eq 27, 3) := by decide +kernel
theorem dX12_isPlace_8 : decode cX12_isPlace 8 = .ok (.iload_n 2, 1) := by decide +kernel
theorem dX12_isPlace_9 : decode cX12_isPlace 9 = .ok (.i2l, 1) := by decide +kernel
theorem dX12_isPlace_10 : decode cX12_isPlace 10 = .ok (.lconst 0, 1) := by decide +kernel
theorem dX12_isPlace_11 : decode cX12_isPlace 11 = .ok (.aload_n 0, 1) := by decide +kernel
theorem dX12_isPlace_12 : decode cX12_isPlace 12 = .ok (.getfield 9, 3) := by decide +kernel
theorem dX12_isPlace_15 : decode cX12_isPlace 15 = .ok (.iconst 3, 1) := by decide +kernel
theorem dX12_isPlace_16 : decode cX12_isPlace 16 = .ok (.iload_n 1, 1) := by decide +kernel
theorem dX12_isPlace_17 : decode cX12_isPlace 17 = .ok (.iadd, 1) := by decide +kernel
theorem dX12_isPlace_18 : decode cX12_isPlace 18 = .ok (.iaload, 1) := by decide +kernel
theorem dX12_isPlace_19 : decode cX12_isPlace 19 = .ok (.iconst 1, 1) := by decide +kernel
theorem dX12_isPlace_20 : decode cX12_isPlace 20 = .ok (.isub, 1) := by decide +kernel
theorem dX12_isPlace_21 : decode cX12_isPlace 21 = .ok (.i2l, 1) := by decide +kernel
theorem dX12_isPlace_22 : decode cX12_isPlace 22 = .ok (.invokestatic 110, 3) := by decide +kernel
theorem dX12_isPlace_25 : decode cX12_isPlace 25 = .ok (.ifCond .eq 7, 3) := by decide +kernel
theorem dX12_isPlace_28 : decode cX12_isPlace 28 = .ok (.iconst 1, 1) := by decide +kernel
theorem dX12_isPlace_29 : decode cX12_isPlace 29 = .ok (.goto 4, 3) := by decide +kernel
theorem dX12_isPlace_32 : decode cX12_isPlace 32 = .ok (.iconst 0, 1) := by decide +kernel
theorem dX12_isPlace_33 : decode cX12_isPlace 33 = .ok (.ireturn, 1) := by decide +kernel
set_option maxRecDepth 100000 in
theorem sp_X12_isPlace (G : MG) (hG : (g_l G).stackTraces = false) (d : Nat) (hd : 2 ≤ d)   (σ : MsSt) (l0 : Nat) (l1 : Int32) (l2 : Int32) (h0 : ms_kd l0 = 13) : MsSpec G mX12_isPlace d 0 0 [.ref l0, .int l1, .int l2] σ (ms_ki σ) (f_X12_isPlace σ l0 l1 l2) := by
  refine ms_start (by decide +kernel) rfl rfl (Nat.le_of_ble_eq_true rfl) ?_
  show TrO G mX12_isPlace d 0 0 0 0 (ms_ki σ) 0 [(0, .ref l0), (1, .int l1), (2, .int l2)] [] σ ((f_X12_isLine σ l0 l1).bind fun v1 => if v1 = 0 then some 0 else (ms_ald σ (ms_rf l0 0) (3 + l1)).bind fun v2 => (f_X12_inRange σ l2.toInt64 0 ((v2 - 1).toInt64)).bind fun v3 => if v3 = 0 then some 0 else some 1)
  refine tr_aload_n (i := 0) dX12_isPlace_0 rfl ?_
  refine tr_iload_n (i := 1) dX12_isPlace_1 rfl ?_
  refine tr_c_i (ms_cV (rest := []) (al := [.int l1]) 12 (sp_X12_isLine G hG (d - 1) (by omega) σ l0 l1 h0) h0 (by decide +kernel) kl_X12_118 fv_X12_isLine dX12_isPlace_2 (show _ = some 1 by decide +kernel) (by omega) (Nat.le_of_ble_eq_true rfl) (by decide) (by decide)) (fun v1 => ?_)
  refine tr_ifeq (o := none) (tgt := 32) dX12_isPlace_5 (by decide) ?_ ?_
  · refine tr_iconst (v := 0) dX12_isPlace_32 (by decide +kernel) ?_
    exact tr_zret rfl (by decide +kernel) rfl (by decide) (by decide) dX12_isPlace_33
  · refine tr_iload_n (i := 2) dX12_isPlace_8 rfl ?_
    refine tr_i2l dX12_isPlace_9 ?_
    refine tr_lconst (v := 0) dX12_isPlace_10 (by decide +kernel) ?_
    refine tr_aload_n (i := 0) dX12_isPlace_11 rfl ?_
    refine tr_getR 12 h0 fl_X12_9 (by decide +kernel) dX12_isPlace_12 ?_
    refine tr_iconst (v := 3) dX12_isPlace_15 (by decide +kernel) ?_
    refine tr_iload_n (i := 1) dX12_isPlace_16 rfl ?_
    refine tr_iadd dX12_isPlace_17 ?_
    refine tr_ald (rk_12_0 h0) dX12_isPlace_18 (fun v2 => ?_)
    refine tr_iconst (v := 1) dX12_isPlace_19 (by decide +kernel) ?_
    refine tr_isub dX12_isPlace_20 ?_
    refine tr_i2l dX12_isPlace_21 ?_
    refine tr_c_i (ms_cS (rest := []) (al := [.long l2.toInt64, .long 0, .long ((v2 - 1).toInt64)]) (sp_X12_inRange G hG (d - 1) (by omega) σ l2.toInt64 0 ((v2 - 1).toInt64)) kl_X12_110 fs_X12_inRange dX12_isPlace_22 (show _ = some 3 by decide +kernel) (by omega) (Nat.le_of_ble_eq_true rfl) (by decide) (by decide)) (fun v3 => ?_)
    refine tr_ifeq (o := none) (tgt := 32) dX12_isPlace_25 (by decide) ?_ ?_
    · refine tr_iconst (v := 0) dX12_isPlace_32 (by decide +kernel) ?_
      exact tr_zret rfl (by decide +kernel) rfl (by decide) (by decide) dX12_isPlace_33
    · refine tr_iconst (v := 1) dX12_isPlace_28 (by decide +kernel) ?_
      refine tr_goto (tgt := 33) dX12_isPlace_29 (by decide) ?_
      exact tr_zret rfl (by decide +kernel) rfl (by decide) (by decide) dX12_isPlace_33
theorem dX12_noLine_0 : decode cX12_noLine 0 = .ok (.aload_n 0, 1) := by decide +kernel
theorem dX12_noLine_1 : decode cX12_noLine 1 = .ok (.aload_n 0, 1) := by decide +kernel
theorem dX12_noLine_2 : decode cX12_noLine 2 = .ok (.iload_n 1, 1) := by decide +kernel
theorem dX12_noLine_3 : decode cX12_noLine 3 = .ok (.invokevirtual 118, 3) := by decide +kernel
theorem dX12_noLine_6 : decode cX12_noLine 6 = .ok (.ifCond .eq 7, 3) := by decide +kernel
theorem dX12_noLine_9 : decode cX12_noLine 9 = .ok (.iconst 0, 1) := by decide +kernel
theorem dX12_noLine_10 : decode cX12_noLine 10 = .ok (.goto 4, 3) := by decide +kernel
theorem dX12_noLine_13 : decode cX12_noLine 13 = .ok (.iconst 1, 1) := by decide +kernel
theorem dX12_noLine_14 : decode cX12_noLine 14 = .ok (.putfield 107, 3) := by decide +kernel
theorem dX12_noLine_17 : decode cX12_noLine 17 = .ok (.aload_n 0, 1) := by decide +kernel
theorem dX12_noLine_18 : decode cX12_noLine 18 = .ok (.getfield 107, 3) := by decide +kernel
theorem dX12_noLine_21 : decode cX12_noLine 21 = .ok (.ifCond .eq 7, 3) := by decide +kernel
theorem dX12_noLine_24 : decode cX12_noLine 24 = .ok (.iconst 1, 1) := by decide +kernel
theorem dX12_noLine_25 : decode cX12_noLine 25 = .ok (.goto 4, 3) := by decide +kernel
theorem dX12_noLine_28 : decode cX12_noLine 28 = .ok (.iconst 0, 1) := by decide +kernel
theorem dX12_noLine_29 : decode cX12_noLine 29 = .ok (.ireturn, 1) := by decide +kernel
set_option maxRecDepth 100000 in
theorem sp_X12_noLine (G : MG) (hG : (g_l G).stackTraces = false) (d : Nat) (hd : 2 ≤ d)   (σ : MsSt) (l0 : Nat) (l1 : Int32) (h0 : ms_kd l0 = 13) : MsSpec G mX12_noLine d 0 0 [.ref l0, .int l1] σ ms_wi (f_X12_noLine σ l0 l1) := by
  refine ms_start (by decide +kernel) rfl rfl (Nat.le_of_ble_eq_true rfl) ?_
  show TrO G mX12_noLine d 0 0 0 0 ms_wi 0 [(0, .ref l0), (1, .int l1)] [] σ ((f_X12_isLine σ l0 l1).bind fun v1 => if v1 = 0 then ms_nm (ms_si σ l0 7 1) fun s2 => if (ms_i s2 l0 7) = 0 then some (0, s2) else some (1, s2) else ms_nm (ms_si σ l0 7 0) fun s3 => if (ms_i s3 l0 7) = 0 then some (0, s3) else some (1, s3))
  refine tr_aload_n (i := 0) dX12_noLine_0 rfl ?_
  refine tr_aload_n (i := 0) dX12_noLine_1 rfl ?_
  refine tr_iload_n (i := 1) dX12_noLine_2 rfl ?_
  refine tr_c_i (ms_cV (rest := [.ref l0]) (al := [.int l1]) 12 (sp_X12_isLine G hG (d - 1) (by omega) σ l0 l1 h0) h0 (by decide +kernel) kl_X12_118 fv_X12_isLine dX12_noLine_3 (show _ = some 1 by decide +kernel) (by omega) (Nat.le_of_ble_eq_true rfl) (by decide) (by decide)) (fun v1 => ?_)
  refine tr_ifeq (o := none) (tgt := 13) dX12_noLine_6 (by decide) ?_ ?_
  · refine tr_iconst (v := 1) dX12_noLine_13 (by decide +kernel) ?_
    refine tr_putI 12 h0 fl_X12_107 (by decide +kernel) dX12_noLine_14 ?_
    refine ms_ltS (fun s2 => ?_)
    refine tr_aload_n (i := 0) dX12_noLine_17 rfl ?_
    refine tr_getI 12 h0 fl_X12_107 (by decide +kernel) dX12_noLine_18 ?_
    refine tr_ifeq (o := none) (tgt := 28) dX12_noLine_21 (by decide) ?_ ?_
    · refine tr_iconst (v := 0) dX12_noLine_28 (by decide +kernel) ?_
      exact tr_zret rfl (by decide +kernel) rfl (by decide) (by decide) dX12_noLine_29
    · refine tr_iconst (v := 1) dX12_noLine_24 (by decide +kernel) ?_
      refine tr_goto (tgt := 29) dX12_noLine_25 (by decide) ?_
      exact tr_zret rfl (by decide +kernel) rfl (by decide) (by decide) dX12_noLine_29
  · refine tr_iconst (v := 0) dX12_noLine_9 (by decide +kernel) ?_
    refine tr_goto (tgt := 14) dX12_noLine_10 (by decide) ?_
    refine tr_putI 12 h0 fl_X12_107 (by decide +kernel) dX12_noLine_14 ?_
    refine ms_ltS (fun s3 => ?_)
    refine tr_aload_n (i := 0) dX12_noLine_17 rfl ?_
    refine tr_getI 12 h0 fl_X12_107 (by decide +kernel) dX12_noLine_18 ?_
    refine tr_ifeq (o := none) (tgt := 28) dX12_noLine_21 (by decide) ?_ ?_
    · refine tr_iconst (v := 0) dX12_noLine_28 (by decide +kernel) ?_
      exact tr_zret rfl (by decide +kernel) rfl (by decide) (by decide) dX12_noLine_29
    · refine tr_iconst (v := 1) dX12_noLine_24 (by decide +kernel) ?_
      refine tr_goto (tgt := 29) dX12_noLine_25 (by decide) ?_
      exact tr_zret rfl (by decide +kernel) rfl (by decide) (by decide) dX12_noLine_29
theorem dX12_noSign_0 : decode cX12_noSign 0 = .ok (.aload_n 0, 1) := by decide +kernel
theorem dX12_noSign_1 : decode cX12_noSign 1 = .ok (.aload_n 0, 1) := by decide +kernel
theorem dX12_noSign_2 : decode cX12_noSign 2 = .ok (.iload_n 1, 1) := by decide +kernel
theorem dX12_noSign_3 : decode cX12_noSign 3 = .ok (.invokevirtual 122, 3) := by decide +kernel
theorem dX12_noSign_6 : decode cX12_noSign 6 = .ok (.ifCond .eq 7, 3) := by decide +kernel
theorem dX12_noSign_9 : decode cX12_noSign 9 = .ok (.iconst 0, 1) := by decide +kernel
theorem dX12_noSign_10 : decode cX12_noSign 10 = .ok (.goto 4, 3) := by decide +kernel
theorem dX12_noSign_13 : decode cX12_noSign 13 = .ok (.iconst 1, 1) := by decide +kernel
theorem dX12_noSign_14 : decode cX12_noSign 14 = .ok (.putfield 107, 3) := by decide +kernel
theorem dX12_noSign_17 : decode cX12_noSign 17 = .ok (.aload_n 0, 1) := by decide +kernel
theorem dX12_noSign_18 : decode cX12_noSign 18 = .ok (.getfield 107, 3) := by decide +kernel
theorem dX12_noSign_21 : decode cX12_noSign 21 = .ok (.ifCond .eq 7, 3) := by decide +kernel
theorem dX12_noSign_24 : decode cX12_noSign 24 = .ok (.iconst 1, 1) := by decide +kernel
theorem dX12_noSign_25 : decode cX12_noSign 25 = .ok (.goto 4, 3) := by decide +kernel
theorem dX12_noSign_28 : decode cX12_noSign 28 = .ok (.iconst 0, 1) := by decide +kernel
theorem dX12_noSign_29 : decode cX12_noSign 29 = .ok (.ireturn, 1) := by decide +kernel
set_option maxRecDepth 100000 in
theorem sp_X12_noSign (G : MG) (hG : (g_l G).stackTraces = false) (d : Nat) (hd : 2 ≤ d)   (σ : MsSt) (l0 : Nat) (l1 : Int32) (h0 : ms_kd l0 = 13) : MsSpec G mX12_noSign d 0 0 [.ref l0, .int l1] σ ms_wi (f_X12_noSign σ l0 l1) := by
  refine ms_start (by decide +kernel) rfl rfl (Nat.le_of_ble_eq_true rfl) ?_
  show TrO G mX12_noSign d 0 0 0 0 ms_wi 0 [(0, .ref l0), (1, .int l1)] [] σ ((f_X12_isSign σ l0 l1).bind fun v1 => if v1 = 0 then ms_nm (ms_si σ l0 7 1) fun s2 => if (ms_i s2 l0 7) = 0 then some (0, s2) else some (1, s2) else ms_nm (ms_si σ l0 7 0) fun s3 => if (ms_i s3 l0 7) = 0 then some (0, s3) else some (1, s3))
  refine tr_aload_n (i := 0) dX12_noSign_0 rfl ?_
  refine tr_aload_n (i := 0) dX12_noSign_1 rfl ?_
  refine tr_iload_n (i := 1) dX12_noSign_2 rfl ?_
  refine tr_c_i (ms_cV (rest := [.ref l0]) (al := [.int l1]) 12 (sp_X12_isSign G hG (d - 1) (by omega) σ l0 l1 h0) h0 (by decide +kernel) kl_X12_122 fv_X12_isSign dX12_noSign_3 (show _ = some 1 by decide +kernel) (by omega) (Nat.le_of_ble_eq_true rfl) (by decide) (by decide)) (fun v1 => ?_)
  refine tr_ifeq (o := none) (tgt := 13) dX12_noSign_6 (by decide) ?_ ?_
  · refine tr_iconst (v := 1) dX12_noSign_13 (by decide +kernel) ?_
    refine tr_putI 12 h0 fl_X12_107 (by decide +kernel) dX12_noSign_14 ?_
    refine ms_ltS (fun s2 => ?_)
    refine tr_aload_n (i := 0) dX12_noSign_17 rfl ?_
    refine tr_getI 12 h0 fl_X12_107 (by decide +kernel) dX12_noSign_18 ?_
    refine tr_ifeq (o := none) (tgt := 28) dX12_noSign_21 (by decide) ?_ ?_
    · refine tr_iconst (v := 0) dX12_noSign_28 (by decide +kernel) ?_
      exact tr_zret rfl (by decide +kernel) rfl (by decide) (by decide) dX12_noSign_29
    · refine tr_iconst (v := 1) dX12_noSign_24 (by decide +kernel) ?_
      refine tr_goto (tgt := 29) dX12_noSign_25 (by decide) ?_
      exact tr_zret rfl (by decide +kernel) rfl (by decide) (by decide) dX12_noSign_29
  · refine tr_iconst (v := 0) dX12_noSign_9 (by decide +kernel) ?_
    refine tr_goto (tgt := 14) dX12_noSign_10 (by decide) ?_
    refine tr_putI 12 h0 fl_X12_107 (by decide +kernel) dX12_noSign_14 ?_
    refine ms_ltS (fun s3 => ?_)
    refine tr_aload_n (i := 0) dX12_noSign_17 rfl ?_
    refine tr_getI 12 h0 fl_X12_107 (by decide +kernel) dX12_noSign_18 ?_
    refine tr_ifeq (o := none) (tgt := 28) dX12_noSign_21 (by decide) ?_ ?_
    · refine tr_iconst (v := 0) dX12_noSign_28 (by decide +kernel) ?_
      exact tr_zret rfl (by decide +kernel) rfl (by decide) (by decide) dX12_noSign_29
    · refine tr_iconst (v := 1) dX12_noSign_24 (by decide +kernel) ?_
      refine tr_goto (tgt := 29) dX12_noSign_25 (by decide) ?_
      exact tr_zret rfl (by decide +kernel) rfl (by decide) (by decide) dX12_noSign_29
theorem dX12_noTwoLines_0 : decode cX12_noTwoLines 0 = .ok (.aload_n 0, 1) := by decide +kernel
theorem dX12_noTwoLines_1 : decode cX12_noTwoLines 1 = .ok (.aload_n 0, 1) := by decide +kernel
theorem dX12_noTwoLines_2 : decode cX12_noTwoLines 2 = .ok (.iload_n 1, 1) := by decide +kernel
theorem dX12_noTwoLines_3 : decode cX12_noTwoLines 3 = .ok (.invokevirtual 118, 3) := by decide +kernel
theorem dX12_noTwoLines_6 : decode cX12_noTwoLines 6 = .ok (.ifCond .eq 15, 3) := by decide +kernel
theorem dX12_noTwoLines_9 : decode cX12_noTwoLines 9 = .ok (.aload_n 0, 1) := by decide +kernel
theorem dX12_noTwoLines_10 : decode cX12_noTwoLines 10 = .ok (.iload_n 2, 1) := by decide +kernel
theorem dX12_noTwoLines_11 : decode cX12_noTwoLines 11 = .ok (.invokevirtual 118, 3) := by decide +kernel
theorem dX12_noTwoLines_14 : decode cX12_noTwoLines 14 = .ok (.ifCond .eq 7, 3) := by decide +kernel
theorem dX12_noTwoLines_17 : decode cX12_noTwoLines 17 = .ok (.iconst 0, 1) := by decide +kernel
theorem dX12_noTwoLines_18 : decode cX12_noTwoLines 18 = .ok (.goto 4, 3) := by decide +kernel
theorem dX12_noTwoLines_21 : decode cX12_noTwoLines 21 = .ok (.iconst 1, 1) := by decide +kernel
theorem dX12_noTwoLines_22 : decode cX12_noTwoLines 22 = .ok (.putfield 107, 3) := by decide +kernel
theorem dX12_noTwoLines_25 : decode cX12_noTwoLines 25 = .ok (.aload_n 0, 1) := by decide +kernel
theorem dX12_noTwoLines_26 : decode cX12_noTwoLines 26 = .ok (.getfield 107, 3) := by decide +kernel
theorem dX12_noTwoLines_29 : decode cX12_noTwoLines 29 = .ok (.ifCond .eq 7, 3) := by decide +kernel
theorem dX12_noTwoLines_32 : decode cX12_noTwoLines 32 = .ok (.iconst 1, 1) := by decide +kernel
theorem dX12_noTwoLines_33 : decode cX12_noTwoLines 33 = .ok (.goto 4, 3) := by decide +kernel
theorem dX12_noTwoLines_36 : decode cX12_noTwoLines 36 = .ok (.iconst 0, 1) := by decide +kernel
theorem dX12_noTwoLines_37 : decode cX12_noTwoLines 37 = .ok (.ireturn, 1) := by decide +kernel
set_option maxRecDepth 100000 in
theorem t_X12_noTwoLines_21 (G : MG) (hG : (g_l G).stackTraces = false) (d : Nat) (hd : 2 ≤ d)    (σ : MsSt) (l0 : Nat) (t0 : Nat) (h0 : ms_kd l0 = 13) (ht0 : ms_kd t0 = 13) : TrO G mX12_noTwoLines d 0 0 0 0 ms_wi 21 [(0, .ref l0)] [.ref t0] σ (f_X12_noTwoLines_21 σ l0 t0) := by
  show TrO G mX12_noTwoLines d 0 0 0 0 ms_wi 21 [(0, .ref l0)] [.ref t0] σ (ms_nm (ms_si σ t0 7 1) fun s2 => if (ms_i s2 l0 7) = 0 then some (0, s2) else some (1, s2))
  refine tr_iconst (v := 1) dX12_noTwoLines_21 (by decide +kernel) ?_
  refine tr_putI 12 ht0 fl_X12_107 (by decide +kernel) dX12_noTwoLines_22 ?_
  refine ms_ltS (fun s2 => ?_)
  refine tr_aload_n (i := 0) dX12_noTwoLines_25 rfl ?_
  refine tr_getI 12 h0 fl_X12_107 (by decide +kernel) dX12_noTwoLines_26 ?_
  refine tr_ifeq (o := none) (tgt := 36) dX12_noTwoLines_29 (by decide) ?_ ?_
  · refine tr_iconst (v := 0) dX12_noTwoLines_36 (by decide +kernel) ?_
    exact tr_zret rfl (by decide +kernel) rfl (by decide) (by decide) dX12_noTwoLines_37
  · refine tr_iconst (v := 1) dX12_noTwoLines_32 (by decide +kernel) ?_
    refine tr_goto (tgt := 37) dX12_noTwoLines_33 (by decide) ?_
    exact tr_zret rfl (by decide +kernel) rfl (by decide) (by decide) dX12_noTwoLines_37
set_option maxRecDepth 100000 in
theorem sp_X12_noTwoLines (G : MG) (hG : (g_l G).stackTraces = false) (d : Nat) (hd : 2 ≤ d)   (σ : MsSt) (l0 : Nat) (l1 : Int32) (l2 : Int32) (h0 : ms_kd l0 = 13) : MsSpec G mX12_noTwoLines d 0 0 [.ref l0, .int l1, .int l2] σ ms_wi (f_X12_noTwoLines σ l0 l1 l2) := by
  refine ms_start (by decide +kernel) rfl rfl (Nat.le_of_ble_eq_true rfl) ?_
  show TrO G mX12_noTwoLines d 0 0 0 0 ms_wi 0 [(0, .ref l0), (1, .int l1), (2, .int l2)] [] σ ((f_X12_isLine σ l0 l1).bind fun v1 => if v1 = 0 then f_X12_noTwoLines_21 σ l0 l0 else (f_X12_isLine σ l0 l2).bind fun v3 => if v3 = 0 then f_X12_noTwoLines_21 σ l0 l0 else ms_nm (ms_si σ l0 7 0) fun s4 => if (ms_i s4 l0 7) = 0 then some (0, s4) else some (1, s4))
  refine tr_aload_n (i := 0) dX12_noTwoLines_0 rfl ?_
  refine tr_aload_n (i := 0) dX12_noTwoLines_1 rfl ?_
  refine tr_iload_n (i := 1) dX12_noTwoLines_2 rfl ?_
  refine tr_c_i (ms_cV (rest := [.ref l0]) (al := [.int l1]) 12 (sp_X12_isLine G hG (d - 1) (by omega) σ l0 l1 h0) h0 (by decide +kernel) kl_X12_118 fv_X12_isLine dX12_noTwoLines_3 (show _ = some 1 by decide +kernel) (by omega) (Nat.le_of_ble_eq_true rfl) (by decide) (by decide)) (fun v1 => ?_)
  refine tr_ifeq (o := none) (tgt := 21) dX12_noTwoLines_6 (by decide) ?_ ?_
  · refine tr_weak [0] (lv' := [(0, .ref l0)]) rfl ?_
    exact t_X12_noTwoLines_21 G hG d hd σ l0 l0 h0 h0
  · refine tr_aload_n (i := 0) dX12_noTwoLines_9 rfl ?_
    refine tr_iload_n (i := 2) dX12_noTwoLines_10 rfl ?_
    refine tr_c_i (ms_cV (rest := [.ref l0]) (al := [.int l2]) 12 (sp_X12_isLine G hG (d - 1) (by omega) σ l0 l2 h0) h0 (by decide +kernel) kl_X12_118 fv_X12_isLine dX12_noTwoLines_11 (show _ = some 1 by decide +kernel) (by omega) (Nat.le_of_ble_eq_true rfl) (by decide) (by decide)) (fun v3 => ?_)
    refine tr_ifeq (o := none) (tgt := 21) dX12_noTwoLines_14 (by decide) ?_ ?_
    · refine tr_weak [0] (lv' := [(0, .ref l0)]) rfl ?_
      exact t_X12_noTwoLines_21 G hG d hd σ l0 l0 h0 h0
    · refine tr_iconst (v := 0) dX12_noTwoLines_17 (by decide +kernel) ?_
      refine tr_goto (tgt := 22) dX12_noTwoLines_18 (by decide) ?_
      refine tr_putI 12 h0 fl_X12_107 (by decide +kernel) dX12_noTwoLines_22 ?_
      refine ms_ltS (fun s4 => ?_)
      refine tr_aload_n (i := 0) dX12_noTwoLines_25 rfl ?_
      refine tr_getI 12 h0 fl_X12_107 (by decide +kernel) dX12_noTwoLines_26 ?_
      refine tr_ifeq (o := none) (tgt := 36) dX12_noTwoLines_29 (by decide) ?_ ?_
      · refine tr_iconst (v := 0) dX12_noTwoLines_36 (by decide +kernel) ?_
        exact tr_zret rfl (by decide +kernel) rfl (by decide) (by decide) dX12_noTwoLines_37
      · refine tr_iconst (v := 1) dX12_noTwoLines_32 (by decide +kernel) ?_
        refine tr_goto (tgt := 37) dX12_noTwoLines_33 (by decide) ?_
        exact tr_zret rfl (by decide +kernel) rfl (by decide) (by decide) dX12_noTwoLines_37
theorem dX12_parts_0 : decode cX12_parts 0 = .ok (.iconst 1, 1) := by decide +kernel
theorem dX12_parts_1 : decode cX12_parts 1 = .ok (.istore_n 2, 1) := by decide +kernel
theorem dX12_parts_2 : decode cX12_parts 2 = .ok (.iload_n 1, 1) := by decide +kernel
theorem dX12_parts_3 : decode cX12_parts 3 = .ok (.istore_n 3, 1) := by decide +kernel
theorem dX12_parts_4 : decode cX12_parts 4 = .ok (.aload_n 0, 1) := by decide +kernel
theorem dX12_parts_5 : decode cX12_parts 5 = .ok (.iload_n 3, 1) := by decide +kernel
theorem dX12_parts_6 : decode cX12_parts 6 = .ok (.iconst 0, 1) := by decide +kernel
theorem dX12_parts_7 : decode cX12_parts 7 = .ok (.invokestatic 114, 3) := by decide +kernel
theorem dX12_parts_10 : decode cX12_parts 10 = .ok (.iaload, 1) := by decide +kernel
theorem dX12_parts_11 : decode cX12_parts 11 = .ok (.iconst 2, 1) := by decide +kernel
theorem dX12_parts_12 : decode cX12_parts 12 = .ok (.if_icmp .ne 17, 3) := by decide +kernel
theorem dX12_parts_15 : decode cX12_parts 15 = .ok (.iinc 2 1, 3) := by decide +kernel
theorem dX12_parts_18 : decode cX12_parts 18 = .ok (.aload_n 0, 1) := by decide +kernel
theorem dX12_parts_19 : decode cX12_parts 19 = .ok (.iload_n 3, 1) := by decide +kernel
theorem dX12_parts_20 : decode cX12_parts 20 = .ok (.iconst 3, 1) := by decide +kernel
theorem dX12_parts_21 : decode cX12_parts 21 = .ok (.invokestatic 114, 3) := by decide +kernel
theorem dX12_parts_24 : decode cX12_parts 24 = .ok (.iaload, 1) := by decide +kernel
theorem dX12_parts_25 : decode cX12_parts 25 = .ok (.istore_n 3, 1) := by decide +kernel
theorem dX12_parts_26 : decode cX12_parts 26 = .ok (.goto (-22), 3) := by decide +kernel
theorem dX12_parts_29 : decode cX12_parts 29 = .ok (.iload_n 2, 1) := by decide +kernel
theorem dX12_parts_30 : decode cX12_parts 30 = .ok (.ireturn, 1) := by decide +kernel
set_option maxRecDepth 100000 in
theorem t_X12_parts_4 (G : MG) (hG : (g_l G).stackTraces = false) (d : Nat) (hd : 1 ≤ d)   (σ : MsSt)  : ∀ (n : Nat) (l0 : Nat) (l2 : Int32) (l3 : Int32) (h0 : ms_kd l0 = 20), TrO G mX12_parts d 0 0 0 0 (ms_ki σ) 4 [(0, .ref l0), (2, .int l2), (3, .int l3)] [] σ (f_X12_parts_4 σ n l0 l2 l3) := by
  intro n
  induction n with
  | zero => exact fun _ _ _ _ => tr_none
  | succ n ih =>
    intro l0 l2 l3 h0
    show TrO G mX12_parts d 0 0 0 0 (ms_ki σ) 4 [(0, .ref l0), (2, .int l2), (3, .int l3)] [] σ ((f_X12_of σ l3 0).bind fun v1 => (ms_ald σ l0 v1).bind fun v2 => if v2 = 2 then (f_X12_of σ l3 3).bind fun v3 => (ms_ald σ l0 v3).bind fun v4 => (f_X12_parts_4 σ n) l0 (l2 + 1) v4 else some l2)
    refine tr_aload_n (i := 0) dX12_parts_4 rfl ?_
    refine tr_iload_n (i := 2) dX12_parts_5 rfl ?_
    refine tr_iconst (v := 0) dX12_parts_6 (by decide +kernel) ?_
    refine tr_c_i (ms_cS (rest := [.ref l0]) (al := [.int l3, .int 0]) (sp_X12_of G hG (d - 1) (by omega) σ l3 0) kl_X12_114 fs_X12_of dX12_parts_7 (show _ = some 2 by decide +kernel) (by omega) (Nat.le_of_ble_eq_true rfl) (by decide) (by decide)) (fun v1 => ?_)
    refine tr_ald h0 dX12_parts_10 (fun v2 => ?_)
    refine tr_iconst (v := 2) dX12_parts_11 (by decide +kernel) ?_
    refine tr_icne (o := none) (tgt := 29) dX12_parts_12 (by decide) ?_ ?_
    · refine tr_iload_n (i := 1) dX12_parts_29 rfl ?_
      exact tr_iret rfl rfl (by decide) (by decide) dX12_parts_30
    · refine tr_iinc (k := 1) (v := (l2 + 1)) (lv' := [(0, .ref l0), (2, .int (l2 + 1)), (3, .int l3)]) [1, 0, 2] dX12_parts_15 rfl rfl (by decide) rfl ?_
      refine tr_aload_n (i := 0) dX12_parts_18 rfl ?_
      refine tr_iload_n (i := 2) dX12_parts_19 rfl ?_
      refine tr_iconst (v := 3) dX12_parts_20 (by decide +kernel) ?_
      refine tr_c_i (ms_cS (rest := [.ref l0]) (al := [.int l3, .int 3]) (sp_X12_of G hG (d - 1) (by omega) σ l3 3) kl_X12_114 fs_X12_of dX12_parts_21 (show _ = some 2 by decide +kernel) (by omega) (Nat.le_of_ble_eq_true rfl) (by decide) (by decide)) (fun v3 => ?_)
      refine tr_ald h0 dX12_parts_24 (fun v4 => ?_)
      refine tr_istore_n (lv' := [(0, .ref l0), (2, .int (l2 + 1)), (3, .int v4)]) [1, 2, 0] dX12_parts_25 (by decide) rfl ?_
      refine tr_goto (tgt := 4) dX12_parts_26 (by decide) ?_
      exact (fun y0 y1 y2 g0 => ih y0 y1 y2 g0) l0 (l2 + 1) v4 h0
set_option maxRecDepth 100000 in
theorem sp_X12_parts (G : MG) (hG : (g_l G).stackTraces = false) (d : Nat) (hd : 1 ≤ d)   (σ : MsSt) (l0 : Nat) (l1 : Int32) (h0 : ms_kd l0 = 20) : MsSpec G mX12_parts d 0 0 [.ref l0, .int l1] σ (ms_ki σ) (f_X12_parts σ l0 l1) := by
  refine ms_start (by decide +kernel) rfl rfl (Nat.le_of_ble_eq_true rfl) ?_
  show TrO G mX12_parts d 0 0 0 0 (ms_ki σ) 0 [(0, .ref l0), (1, .int l1)] [] σ (f_X12_parts_4 σ ms_fuel l0 1 l1)
  refine tr_iconst (v := 1) dX12_parts_0 (by decide +kernel) ?_
  refine tr_istore_n (lv' := [(0, .ref l0), (1, .int l1), (2, .int 1)]) [1, 2, 0] dX12_parts_1 (by decide) rfl ?_
  refine tr_iload_n (i := 1) dX12_parts_2 rfl ?_
  refine tr_istore_n (lv' := [(0, .ref l0), (2, .int 1), (3, .int l1)]) [1, 3, 0] dX12_parts_3 (by decide) rfl ?_
  exact t_X12_parts_4 G hG d hd σ ms_fuel l0 1 l1 h0
theorem dX12_expand_0 : decode cX12_expand 0 = .ok (.aload_n 0, 1) := by decide +kernel
theorem dX12_expand_1 : decode cX12_expand 1 = .ok (.getfield 9, 3) := by decide +kernel
theorem dX12_expand_4 : decode cX12_expand 4 = .ok (.iload_n 1, 1) := by decide +kernel
theorem dX12_expand_5 : decode cX12_expand 5 = .ok (.invokestatic 125, 3) := by decide +kernel
theorem dX12_expand_8 : decode cX12_expand 8 = .ok (.istore_n 2, 1) := by decide +kernel
theorem dX12_expand_9 : decode cX12_expand 9 = .ok (.iload_n 1, 1) := by decide +kernel
theorem dX12_expand_10 : decode cX12_expand 10 = .ok (.istore_n 3, 1) := by decide +kernel
theorem dX12_expand_11 : decode cX12_expand 11 = .ok (.iload_n 2, 1) := by decide +kernel
theorem dX12_expand_12 : decode cX12_expand 12 = .ok (.iconst 1, 1) := by decide +kernel
theorem dX12_expand_13 : decode cX12_expand 13 = .ok (.isub, 1) := by decide +kernel
theorem dX12_expand_14 : decode cX12_expand 14 = .ok (.istore 4, 2) := by decide +kernel
theorem dX12_expand_16 : decode cX12_expand 16 = .ok (.iload 4, 2) := by decide +kernel
theorem dX12_expand_18 : decode cX12_expand 18 = .ok (.ifCond .le 37, 3) := by decide +kernel
theorem dX12_expand_21 : decode cX12_expand 21 = .ok (.aload_n 0, 1) := by decide +kernel
theorem dX12_expand_22 : decode cX12_expand 22 = .ok (.getfield 28, 3) := by decide +kernel
theorem dX12_expand_25 : decode cX12_expand 25 = .ok (.iload 4, 2) := by decide +kernel
theorem dX12_expand_27 : decode cX12_expand 27 = .ok (.aload_n 0, 1) := by decide +kernel
theorem dX12_expand_28 : decode cX12_expand 28 = .ok (.getfield 9, 3) := by decide +kernel
theorem dX12_expand_31 : decode cX12_expand 31 = .ok (.iload_n 3, 1) := by decide +kernel
theorem dX12_expand_32 : decode cX12_expand 32 = .ok (.iconst 4, 1) := by decide +kernel
theorem dX12_expand_33 : decode cX12_expand 33 = .ok (.invokestatic 114, 3) := by decide +kernel
theorem dX12_expand_36 : decode cX12_expand 36 = .ok (.iaload, 1) := by decide +kernel
theorem dX12_expand_37 : decode cX12_expand 37 = .ok (.iastore, 1) := by decide +kernel
theorem dX12_expand_38 : decode cX12_expand 38 = .ok (.aload_n 0, 1) := by decide +kernel
theorem dX12_expand_39 : decode cX12_expand 39 = .ok (.getfield 9, 3) := by decide +kernel
theorem dX12_expand_42 : decode cX12_expand 42 = .ok (.iload_n 3, 1) := by decide +kernel
theorem dX12_expand_43 : decode cX12_expand 43 = .ok (.iconst 3, 1) := by decide +kernel
theorem dX12_expand_44 : decode cX12_expand 44 = .ok (.invokestatic 114, 3) := by decide +kernel
theorem dX12_expand_47 : decode cX12_expand 47 = .ok (.iaload, 1) := by decide +kernel
theorem dX12_expand_48 : decode cX12_expand 48 = .ok (.istore_n 3, 1) := by decide +kernel
theorem dX12_expand_49 : decode cX12_expand 49 = .ok (.iinc 4 (-1), 3) := by decide +kernel
theorem dX12_expand_52 : decode cX12_expand 52 = .ok (.goto (-36), 3) := by decide +kernel
theorem dX12_expand_55 : decode cX12_expand 55 = .ok (.aload_n 0, 1) := by decide +kernel
theorem dX12_expand_56 : decode cX12_expand 56 = .ok (.getfield 28, 3) := by decide +kernel
theorem dX12_expand_59 : decode cX12_expand 59 = .ok (.iconst 0, 1) := by decide +kernel
theorem dX12_expand_60 : decode cX12_expand 60 = .ok (.iload_n 3, 1) := by decide +kernel
theorem dX12_expand_61 : decode cX12_expand 61 = .ok (.iastore, 1) := by decide +kernel
theorem dX12_expand_62 : decode cX12_expand 62 = .ok (.iload_n 2, 1) := by decide +kernel
theorem dX12_expand_63 : decode cX12_expand 63 = .ok (.ireturn, 1) := by decide +kernel
set_option maxRecDepth 100000 in
theorem t_X12_expand_16 (G : MG) (hG : (g_l G).stackTraces = false) (d : Nat) (hd : 2 ≤ d)    : ∀ (n : Nat) (σ : MsSt) (l0 : Nat) (l2 : Int32) (l3 : Int32) (l4 : Int32) (h0 : ms_kd l0 = 13), TrO G mX12_expand d 0 0 0 0 ms_wi 16 [(0, .ref l0), (2, .int l2), (3, .int l3), (4, .int l4)] [] σ (f_X12_expand_16 n σ l0 l2 l3 l4) := by
  intro n
  induction n with
  | zero => exact fun _ _ _ _ _ _ => tr_none
  | succ n ih =>
    intro σ l0 l2 l3 l4 h0
    show TrO G mX12_expand d 0 0 0 0 ms_wi 16 [(0, .ref l0), (2, .int l2), (3, .int l3), (4, .int l4)] [] σ (if 0 < l4 then (f_X12_of σ l3 4).bind fun v3 => (ms_ald σ (ms_rf l0 0) v3).bind fun v4 => (ms_ast σ (ms_rf l0 9) l4 v4).bind fun s5 => (f_X12_of s5 l3 3).bind fun v6 => (ms_ald s5 (ms_rf l0 0) v6).bind fun v7 => (f_X12_expand_16 n) s5 l0 l2 v7 (l4 + (-1)) else (ms_ast σ (ms_rf l0 9) 0 l3).bind fun s2 => some (l2, s2))
    refine tr_iload (i := 3) dX12_expand_16 rfl ?_
    refine tr_ifle (o := none) (tgt := 55) dX12_expand_18 (by decide) ?_ ?_
    · refine tr_aload_n (i := 0) dX12_expand_55 rfl ?_
      refine tr_getR 12 h0 fl_X12_28 (by decide +kernel) dX12_expand_56 ?_
      refine tr_iconst (v := 0) dX12_expand_59 (by decide +kernel) ?_
      refine tr_iload_n (i := 2) dX12_expand_60 rfl ?_
      refine tr_ast (rk_12_9 h0) dX12_expand_61 (fun s2 => ?_)
      refine tr_iload_n (i := 1) dX12_expand_62 rfl ?_
      exact tr_iret rfl rfl (by decide) (by decide) dX12_expand_63
    · refine tr_aload_n (i := 0) dX12_expand_21 rfl ?_
      refine tr_getR 12 h0 fl_X12_28 (by decide +kernel) dX12_expand_22 ?_
      refine tr_iload (i := 3) dX12_expand_25 rfl ?_
      refine tr_aload_n (i := 0) dX12_expand_27 rfl ?_
      refine tr_getR 12 h0 fl_X12_9 (by decide +kernel) dX12_expand_28 ?_
      refine tr_iload_n (i := 2) dX12_expand_31 rfl ?_
      refine tr_iconst (v := 4) dX12_expand_32 (by decide +kernel) ?_
      refine tr_c_i (ms_cS (rest := [.ref (ms_rf l0 0), .int l4, .ref (ms_rf l0 9)]) (al := [.int l3, .int 4]) (sp_X12_of G hG (d - 1) (by omega) σ l3 4) kl_X12_114 fs_X12_of dX12_expand_33 (show _ = some 2 by decide +kernel) (by omega) (Nat.le_of_ble_eq_true rfl) (by decide) (by decide)) (fun v3 => ?_)
      refine tr_ald (rk_12_0 h0) dX12_expand_36 (fun v4 => ?_)
      refine tr_ast (rk_12_9 h0) dX12_expand_37 (fun s5 => ?_)
      refine tr_aload_n (i := 0) dX12_expand_38 rfl ?_
      refine tr_getR 12 h0 fl_X12_9 (by decide +kernel) dX12_expand_39 ?_
      refine tr_iload_n (i := 2) dX12_expand_42 rfl ?_
      refine tr_iconst (v := 3) dX12_expand_43 (by decide +kernel) ?_
      refine tr_c_i (ms_cS (rest := [.ref (ms_rf l0 0)]) (al := [.int l3, .int 3]) (sp_X12_of G hG (d - 1) (by omega) s5 l3 3) kl_X12_114 fs_X12_of dX12_expand_44 (show _ = some 2 by decide +kernel) (by omega) (Nat.le_of_ble_eq_true rfl) (by decide) (by decide)) (fun v6 => ?_)
      refine tr_ald (rk_12_0 h0) dX12_expand_47 (fun v7 => ?_)
      refine tr_istore_n (lv' := [(0, .ref l0), (2, .int l2), (3, .int v7), (4, .int l4)]) [1, 2, 0, 3] dX12_expand_48 (by decide) rfl ?_
      refine tr_iinc (k := 3) (v := (l4 + (-1))) (lv' := [(0, .ref l0), (2, .int l2), (3, .int v7), (4, .int (l4 + (-1)))]) [1, 2, 3, 0] dX12_expand_49 rfl rfl (by decide) rfl ?_
      refine tr_goto (tgt := 16) dX12_expand_52 (by decide) ?_
      exact (fun s y0 y1 y2 y3 g0 => ih s y0 y1 y2 y3 g0) s5 l0 l2 v7 (l4 + (-1)) h0
set_option maxRecDepth 100000 in
theorem sp_X12_expand (G : MG) (hG : (g_l G).stackTraces = false) (d : Nat) (hd : 2 ≤ d)   (σ : MsSt) (l0 : Nat) (l1 : Int32) (h0 : ms_kd l0 = 13) : MsSpec G mX12_expand d 0 0 [.ref l0, .int l1] σ ms_wi (f_X12_expand σ l0 l1) := by
  refine ms_start (by decide +kernel) rfl rfl (Nat.le_of_ble_eq_true rfl) ?_
  show TrO G mX12_expand d 0 0 0 0 ms_wi 0 [(0, .ref l0), (1, .int l1)] [] σ ((f_X12_parts σ (ms_rf l0 0) l1).bind fun v1 => f_X12_expand_16 ms_fuel σ l0 v1 l1 (v1 - 1))
  refine tr_aload_n (i := 0) dX12_expand_0 rfl ?_
  refine tr_getR 12 h0 fl_X12_9 (by decide +kernel) dX12_expand_1 ?_
  refine tr_iload_n (i := 1) dX12_expand_4 rfl ?_
  refine tr_c_i (ms_cS (rest := []) (al := [.ref (ms_rf l0 0), .int l1]) (sp_X12_parts G hG (d - 1) (by omega) σ (ms_rf l0 0) l1 (rk_12_0 h0)) kl_X12_125 fs_X12_parts dX12_expand_5 (show _ = some 2 by decide +kernel) (by omega) (Nat.le_of_ble_eq_true rfl) (by decide) (by decide)) (fun v1 => ?_)
  refine tr_istore_n (lv' := [(0, .ref l0), (1, .int l1), (2, .int v1)]) [1, 2, 0] dX12_expand_8 (by decide) rfl ?_
  refine tr_iload_n (i := 1) dX12_expand_9 rfl ?_
  refine tr_istore_n (lv' := [(0, .ref l0), (2, .int v1), (3, .int l1)]) [1, 3, 0] dX12_expand_10 (by decide) rfl ?_
  refine tr_iload_n (i := 1) dX12_expand_11 rfl ?_
  refine tr_iconst (v := 1) dX12_expand_12 (by decide +kernel) ?_
  refine tr_isub dX12_expand_13 ?_
  refine tr_istore (lv' := [(0, .ref l0), (2, .int v1), (3, .int l1), (4, .int (v1 - 1))]) [1, 2, 3, 0] dX12_expand_14 (by decide) rfl ?_
  exact t_X12_expand_16 G hG d hd ms_fuel σ l0 v1 l1 (v1 - 1) h0
theorem dX12_isMark_0 : decode cX12_isMark 0 = .ok (.aload_n 0, 1) := by decide +kernel
theorem dX12_isMark_1 : decode cX12_isMark 1 = .ok (.iload_n 1, 1) := by decide +kernel
theorem dX12_isMark_2 : decode cX12_isMark 2 = .ok (.iconst 1, 1) := by decide +kernel
theorem dX12_isMark_3 : decode cX12_isMark 3 = .ok (.invokevirtual 128, 3) := by decide +kernel
theorem dX12_isMark_6 : decode cX12_isMark 6 = .ok (.ireturn, 1) := by decide +kernel
set_option maxRecDepth 100000 in
theorem sp_X12_isMark (G : MG) (hG : (g_l G).stackTraces = false) (d : Nat) (hd : 2 ≤ d)   (σ : MsSt) (l0 : Nat) (l1 : Int32) (h0 : ms_kd l0 = 13) : MsSpec G mX12_isMark d 0 0 [.ref l0, .int l1] σ (ms_ki σ) (f_X12_isMark σ l0 l1) := by
  refine ms_start (by decide +kernel) rfl rfl (Nat.le_of_ble_eq_true rfl) ?_
  show TrO G mX12_isMark d 0 0 0 0 (ms_ki σ) 0 [(0, .ref l0), (1, .int l1)] [] σ ((f_X12_isOfKind σ l0 l1 1).bind fun v1 => (ms_bz v1).bind fun v2 => some v2)
  refine tr_aload_n (i := 0) dX12_isMark_0 rfl ?_
  refine tr_iload_n (i := 1) dX12_isMark_1 rfl ?_
  refine tr_iconst (v := 1) dX12_isMark_2 (by decide +kernel) ?_
  refine tr_c_i (ms_cV (rest := []) (al := [.int l1, .int 1]) 12 (sp_X12_isOfKind G hG (d - 1) (by omega) σ l0 l1 1 h0) h0 (by decide +kernel) kl_X12_128 fv_X12_isOfKind dX12_isMark_3 (show _ = some 2 by decide +kernel) (by omega) (Nat.le_of_ble_eq_true rfl) (by decide) (by decide)) (fun v1 => ?_)
  exact tr_bret rfl rfl rfl (by decide) (by decide) dX12_isMark_6
theorem dX12_add_0 : decode cX12_add 0 = .ok (.aload_n 0, 1) := by decide +kernel
theorem dX12_add_1 : decode cX12_add 1 = .ok (.getfield 132, 3) := by decide +kernel
theorem dX12_add_4 : decode cX12_add 4 = .ok (.istore_n 2, 1) := by decide +kernel
theorem dX12_add_5 : decode cX12_add 5 = .ok (.aload_n 0, 1) := by decide +kernel
theorem dX12_add_6 : decode cX12_add 6 = .ok (.iload_n 1, 1) := by decide +kernel
theorem dX12_add_7 : decode cX12_add 7 = .ok (.invokevirtual 135, 3) := by decide +kernel
theorem dX12_add_10 : decode cX12_add 10 = .ok (.ifCond .eq 82, 3) := by decide +kernel
theorem dX12_add_13 : decode cX12_add 13 = .ok (.iload_n 2, 1) := by decide +kernel
theorem dX12_add_14 : decode cX12_add 14 = .ok (.ifCond .le 78, 3) := by decide +kernel
theorem dX12_add_17 : decode cX12_add 17 = .ok (.aload_n 0, 1) := by decide +kernel
theorem dX12_add_18 : decode cX12_add 18 = .ok (.aload_n 0, 1) := by decide +kernel
theorem dX12_add_19 : decode cX12_add 19 = .ok (.getfield 31, 3) := by decide +kernel
theorem dX12_add_22 : decode cX12_add 22 = .ok (.iload_n 2, 1) := by decide +kernel
theorem dX12_add_23 : decode cX12_add 23 = .ok (.iconst 1, 1) := by decide +kernel
theorem dX12_add_24 : decode cX12_add 24 = .ok (.isub, 1) := by decide +kernel
theorem dX12_add_25 : decode cX12_add 25 = .ok (.iaload, 1) := by decide +kernel
theorem dX12_add_26 : decode cX12_add 26 = .ok (.invokevirtual 135, 3) := by decide +kernel
theorem dX12_add_29 : decode cX12_add 29 = .ok (.ifCond .eq 63, 3) := by decide +kernel
theorem dX12_add_32 : decode cX12_add 32 = .ok (.aload_n 0, 1) := by decide +kernel
theorem dX12_add_33 : decode cX12_add 33 = .ok (.getfield 9, 3) := by decide +kernel
theorem dX12_add_36 : decode cX12_add 36 = .ok (.aload_n 0, 1) := by decide +kernel
theorem dX12_add_37 : decode cX12_add 37 = .ok (.getfield 31, 3) := by decide +kernel
theorem dX12_add_40 : decode cX12_add 40 = .ok (.iload_n 2, 1) := by decide +kernel
theorem dX12_add_41 : decode cX12_add 41 = .ok (.iconst 1, 1) := by decide +kernel
theorem dX12_add_42 : decode cX12_add 42 = .ok (.isub, 1) := by decide +kernel
theorem dX12_add_43 : decode cX12_add 43 = .ok (.iaload, 1) := by decide +kernel
theorem dX12_add_44 : decode cX12_add 44 = .ok (.iconst 1, 1) := by decide +kernel
theorem dX12_add_45 : decode cX12_add 45 = .ok (.invokestatic 114, 3) := by decide +kernel
theorem dX12_add_48 : decode cX12_add 48 = .ok (.iaload, 1) := by decide +kernel
theorem dX12_add_49 : decode cX12_add 49 = .ok (.aload_n 0, 1) := by decide +kernel
theorem dX12_add_50 : decode cX12_add 50 = .ok (.getfield 9, 3) := by decide +kernel
theorem dX12_add_53 : decode cX12_add 53 = .ok (.iload_n 1, 1) := by decide +kernel
theorem dX12_add_54 : decode cX12_add 54 = .ok (.iconst 1, 1) := by decide +kernel
theorem dX12_add_55 : decode cX12_add 55 = .ok (.invokestatic 114, 3) := by decide +kernel
theorem dX12_add_58 : decode cX12_add 58 = .ok (.iaload, 1) := by decide +kernel
theorem dX12_add_59 : decode cX12_add 59 = .ok (.if_icmp .le 33, 3) := by decide +kernel
theorem dX12_add_62 : decode cX12_add 62 = .ok (.aload_n 0, 1) := by decide +kernel
theorem dX12_add_63 : decode cX12_add 63 = .ok (.getfield 31, 3) := by decide +kernel
theorem dX12_add_66 : decode cX12_add 66 = .ok (.iload_n 2, 1) := by decide +kernel
theorem dX12_add_67 : decode cX12_add 67 = .ok (.aload_n 0, 1) := by decide +kernel
theorem dX12_add_68 : decode cX12_add 68 = .ok (.getfield 31, 3) := by decide +kernel
theorem dX12_add_71 : decode cX12_add 71 = .ok (.iload_n 2, 1) := by decide +kernel
theorem dX12_add_72 : decode cX12_add 72 = .ok (.iconst 1, 1) := by decide +kernel
theorem dX12_add_73 : decode cX12_add 73 = .ok (.isub, 1) := by decide +kernel
theorem dX12_add_74 : decode cX12_add 74 = .ok (.iaload, 1) := by decide +kernel
theorem dX12_add_75 : decode cX12_add 75 = .ok (.iastore, 1) := by decide +kernel
theorem dX12_add_76 : decode cX12_add 76 = .ok (.iinc 2 (-1), 3) := by decide +kernel
theorem dX12_add_79 : decode cX12_add 79 = .ok (.aload_n 0, 1) := by decide +kernel
theorem dX12_add_80 : decode cX12_add 80 = .ok (.dup, 1) := by decide +kernel
theorem dX12_add_81 : decode cX12_add 81 = .ok (.getfield 138, 3) := by decide +kernel
theorem dX12_add_84 : decode cX12_add 84 = .ok (.iconst 1, 1) := by decide +kernel
theorem dX12_add_85 : decode cX12_add 85 = .ok (.iadd, 1) := by decide +kernel
theorem dX12_add_86 : decode cX12_add 86 = .ok (.putfield 138, 3) := by decide +kernel
theorem dX12_add_89 : decode cX12_add 89 = .ok (.goto (-84), 3) := by decide +kernel
theorem dX12_add_92 : decode cX12_add 92 = .ok (.aload_n 0, 1) := by decide +kernel
theorem dX12_add_93 : decode cX12_add 93 = .ok (.getfield 31, 3) := by decide +kernel
theorem dX12_add_96 : decode cX12_add 96 = .ok (.iload_n 2, 1) := by decide +kernel
theorem dX12_add_97 : decode cX12_add 97 = .ok (.iload_n 1, 1) := by decide +kernel
theorem dX12_add_98 : decode cX12_add 98 = .ok (.iastore, 1) := by decide +kernel
theorem dX12_add_99 : decode cX12_add 99 = .ok (.aload_n 0, 1) := by decide +kernel
theorem dX12_add_100 : decode cX12_add 100 = .ok (.dup, 1) := by decide +kernel
theorem dX12_add_101 : decode cX12_add 101 = .ok (.getfield 132, 3) := by decide +kernel
theorem dX12_add_104 : decode cX12_add 104 = .ok (.iconst 1, 1) := by decide +kernel
theorem dX12_add_105 : decode cX12_add 105 = .ok (.iadd, 1) := by decide +kernel
theorem dX12_add_106 : decode cX12_add 106 = .ok (.putfield 132, 3) := by decide +kernel
theorem dX12_add_109 : decode cX12_add 109 = .ok (.return_, 1) := by decide +kernel
set_option maxRecDepth 100000 in
theorem t_X12_add_92 (G : MG) (hG : (g_l G).stackTraces = false) (d : Nat) (hd : 3 ≤ d)    (σ : MsSt) (l0 : Nat) (l1 : Int32) (l2 : Int32) (h0 : ms_kd l0 = 13) : TrO G mX12_add d 0 0 0 0 ms_wv 92 [(0, .ref l0), (1, .int l1), (2, .int l2)] [] σ (f_X12_add_92 σ l0 l1 l2) := by
  show TrO G mX12_add d 0 0 0 0 ms_wv 92 [(0, .ref l0), (1, .int l1), (2, .int l2)] [] σ ((ms_ast σ (ms_rf l0 10) l2 l1).bind fun s2 => ms_nm (ms_si s2 l0 11 ((ms_i s2 l0 11) + 1)) fun s3 => some s3)
  refine tr_aload_n (i := 0) dX12_add_92 rfl ?_
  refine tr_getR 12 h0 fl_X12_31 (by decide +kernel) dX12_add_93 ?_
  refine tr_iload_n (i := 2) dX12_add_96 rfl ?_
  refine tr_iload_n (i := 1) dX12_add_97 rfl ?_
  refine tr_ast (rk_12_10 h0) dX12_add_98 (fun s2 => ?_)
  refine tr_aload_n (i := 0) dX12_add_99 rfl ?_
  refine tr_dup dX12_add_100 rfl ?_
  refine tr_getI 12 h0 fl_X12_132 (by decide +kernel) dX12_add_101 ?_
  refine tr_iconst (v := 1) dX12_add_104 (by decide +kernel) ?_
  refine tr_iadd dX12_add_105 ?_
  refine tr_putI 12 h0 fl_X12_132 (by decide +kernel) dX12_add_106 ?_
  refine ms_ltS (fun s3 => ?_)
  exact tr_vret rfl rfl (by decide) (by decide) dX12_add_109
set_option maxRecDepth 100000 in
theorem t_X12_add_5 (G : MG) (hG : (g_l G).stackTraces = false) (d : Nat) (hd : 3 ≤ d)    : ∀ (n : Nat) (σ : MsSt) (l0 : Nat) (l1 : Int32) (l2 : Int32) (h0 : ms_kd l0 = 13), TrO G mX12_add d 0 0 0 0 ms_wv 5 [(0, .ref l0), (1, .int l1), (2, .int l2)] [] σ (f_X12_add_5 n σ l0 l1 l2) := by
  intro n
  induction n with
  | zero => exact fun _ _ _ _ _ => tr_none
  | succ n ih =>
    intro σ l0 l1 l2 h0
    show TrO G mX12_add d 0 0 0 0 ms_wv 5 [(0, .ref l0), (1, .int l1), (2, .int l2)] [] σ ((f_X12_isMark σ l0 l1).bind fun v1 => if v1 = 0 then f_X12_add_92 σ l0 l1 l2 else if 0 < l2 then (ms_ald σ (ms_rf l0 10) (l2 - 1)).bind fun v4 => (f_X12_isMark σ l0 v4).bind fun v5 => if v5 = 0 then f_X12_add_92 σ l0 l1 l2 else (ms_ald σ (ms_rf l0 10) (l2 - 1)).bind fun v6 => (f_X12_of σ v6 1).bind fun v7 => (ms_ald σ (ms_rf l0 0) v7).bind fun v8 => (f_X12_of σ l1 1).bind fun v9 => (ms_ald σ (ms_rf l0 0) v9).bind fun v10 => if v10 < v8 then (ms_ald σ (ms_rf l0 10) (l2 - 1)).bind fun v11 => (ms_ast σ (ms_rf l0 10) l2 v11).bind fun s12 => ms_nm (ms_si s12 l0 12 ((ms_i s12 l0 12) + 1)) fun s13 => (f_X12_add_5 n) s13 l0 l1 (l2 + (-1)) else f_X12_add_92 σ l0 l1 l2 else f_X12_add_92 σ l0 l1 l2)
    refine tr_aload_n (i := 0) dX12_add_5 rfl ?_
    refine tr_iload_n (i := 1) dX12_add_6 rfl ?_
    refine tr_c_i (ms_cV (rest := []) (al := [.int l1]) 12 (sp_X12_isMark G hG (d - 1) (by omega) σ l0 l1 h0) h0 (by decide +kernel) kl_X12_135 fv_X12_isMark dX12_add_7 (show _ = some 1 by decide +kernel) (by omega) (Nat.le_of_ble_eq_true rfl) (by decide) (by decide)) (fun v1 => ?_)
    refine tr_ifeq (o := none) (tgt := 92) dX12_add_10 (by decide) ?_ ?_
    · exact t_X12_add_92 G hG d hd σ l0 l1 l2 h0
    · refine tr_iload_n (i := 2) dX12_add_13 rfl ?_
      refine tr_ifle (o := none) (tgt := 92) dX12_add_14 (by decide) ?_ ?_
      · exact t_X12_add_92 G hG d hd σ l0 l1 l2 h0
      · refine tr_aload_n (i := 0) dX12_add_17 rfl ?_
        refine tr_aload_n (i := 0) dX12_add_18 rfl ?_
        refine tr_getR 12 h0 fl_X12_31 (by decide +kernel) dX12_add_19 ?_
        refine tr_iload_n (i := 2) dX12_add_22 rfl ?_
        refine tr_iconst (v := 1) dX12_add_23 (by decide +kernel) ?_
        refine tr_isub dX12_add_24 ?_
        refine tr_ald (rk_12_10 h0) dX12_add_25 (fun v4 => ?_)
        refine tr_c_i (ms_cV (rest := []) (al := [.int v4]) 12 (sp_X12_isMark G hG (d - 1) (by omega) σ l0 v4 h0) h0 (by decide +kernel) kl_X12_135 fv_X12_isMark dX12_add_26 (show _ = some 1 by decide +kernel) (by omega) (Nat.le_of_ble_eq_true rfl) (by decide) (by decide)) (fun v5 => ?_)
        refine tr_ifeq (o := none) (tgt := 92) dX12_add_29 (by decide) ?_ ?_
        · exact t_X12_add_92 G hG d hd σ l0 l1 l2 h0
        · refine tr_aload_n (i := 0) dX12_add_32 rfl ?_
          refine tr_getR 12 h0 fl_X12_9 (by decide +kernel) dX12_add_33 ?_
          refine tr_aload_n (i := 0) dX12_add_36 rfl ?_
          refine tr_getR 12 h0 fl_X12_31 (by decide +kernel) dX12_add_37 ?_
          refine tr_iload_n (i := 2) dX12_add_40 rfl ?_
          refine tr_iconst (v := 1) dX12_add_41 (by decide +kernel) ?_
          refine tr_isub dX12_add_42 ?_
          refine tr_ald (rk_12_10 h0) dX12_add_43 (fun v6 => ?_)
          refine tr_iconst (v := 1) dX12_add_44 (by decide +kernel) ?_
          refine tr_c_i (ms_cS (rest := [.ref (ms_rf l0 0)]) (al := [.int v6, .int 1]) (sp_X12_of G hG (d - 1) (by omega) σ v6 1) kl_X12_114 fs_X12_of dX12_add_45 (show _ = some 2 by decide +kernel) (by omega) (Nat.le_of_ble_eq_true rfl) (by decide) (by decide)) (fun v7 => ?_)
          refine tr_ald (rk_12_0 h0) dX12_add_48 (fun v8 => ?_)
          refine tr_aload_n (i := 0) dX12_add_49 rfl ?_
          refine tr_getR 12 h0 fl_X12_9 (by decide +kernel) dX12_add_50 ?_
          refine tr_iload_n (i := 1) dX12_add_53 rfl ?_
          refine tr_iconst (v := 1) dX12_add_54 (by decide +kernel) ?_
          refine tr_c_i (ms_cS (rest := [.ref (ms_rf l0 0), .int v8]) (al := [.int l1, .int 1]) (sp_X12_of G hG (d - 1) (by omega) σ l1 1) kl_X12_114 fs_X12_of dX12_add_55 (show _ = some 2 by decide +kernel) (by omega) (Nat.le_of_ble_eq_true rfl) (by decide) (by decide)) (fun v9 => ?_)
          refine tr_ald (rk_12_0 h0) dX12_add_58 (fun v10 => ?_)
          refine tr_icle (o := none) (tgt := 92) dX12_add_59 (by decide) ?_ ?_
          · exact t_X12_add_92 G hG d hd σ l0 l1 l2 h0
          · refine tr_aload_n (i := 0) dX12_add_62 rfl ?_
            refine tr_getR 12 h0 fl_X12_31 (by decide +kernel) dX12_add_63 ?_
            refine tr_iload_n (i := 2) dX12_add_66 rfl ?_
            refine tr_aload_n (i := 0) dX12_add_67 rfl ?_
            refine tr_getR 12 h0 fl_X12_31 (by decide +kernel) dX12_add_68 ?_
            refine tr_iload_n (i := 2) dX12_add_71 rfl ?_
            refine tr_iconst (v := 1) dX12_add_72 (by decide +kernel) ?_
            refine tr_isub dX12_add_73 ?_
            refine tr_ald (rk_12_10 h0) dX12_add_74 (fun v11 => ?_)
            refine tr_ast (rk_12_10 h0) dX12_add_75 (fun s12 => ?_)
            refine tr_iinc (k := 2) (v := (l2 + (-1))) (lv' := [(0, .ref l0), (1, .int l1), (2, .int (l2 + (-1)))]) [1, 2, 0] dX12_add_76 rfl rfl (by decide) rfl ?_
            refine tr_aload_n (i := 0) dX12_add_79 rfl ?_
            refine tr_dup dX12_add_80 rfl ?_
            refine tr_getI 12 h0 fl_X12_138 (by decide +kernel) dX12_add_81 ?_
            refine tr_iconst (v := 1) dX12_add_84 (by decide +kernel) ?_
            refine tr_iadd dX12_add_85 ?_
            refine tr_putI 12 h0 fl_X12_138 (by decide +kernel) dX12_add_86 ?_
            refine ms_ltS (fun s13 => ?_)
            refine tr_goto (tgt := 5) dX12_add_89 (by decide) ?_
            exact (fun s y0 y1 y2 g0 => ih s y0 y1 y2 g0) s13 l0 l1 (l2 + (-1)) h0
set_option maxRecDepth 100000 in
theorem sp_X12_add (G : MG) (hG : (g_l G).stackTraces = false) (d : Nat) (hd : 3 ≤ d)   (σ : MsSt) (l0 : Nat) (l1 : Int32) (h0 : ms_kd l0 = 13) : MsSpec G mX12_add d 0 0 [.ref l0, .int l1] σ ms_wv (f_X12_add σ l0 l1) := by
  refine ms_start (by decide +kernel) rfl rfl (Nat.le_of_ble_eq_true rfl) ?_
  show TrO G mX12_add d 0 0 0 0 ms_wv 0 [(0, .ref l0), (1, .int l1)] [] σ (f_X12_add_5 ms_fuel σ l0 l1 (ms_i σ l0 11))
  refine tr_aload_n (i := 0) dX12_add_0 rfl ?_
  refine tr_getI 12 h0 fl_X12_132 (by decide +kernel) dX12_add_1 ?_
  refine tr_istore_n (lv' := [(0, .ref l0), (1, .int l1), (2, .int (ms_i σ l0 11))]) [1, 2, 0] dX12_add_4 (by decide) rfl ?_
  exact t_X12_add_5 G hG d hd ms_fuel σ l0 l1 (ms_i σ l0 11) h0
theorem dX12_addExpanded_0 : decode cX12_addExpanded 0 = .ok (.aload_n 0, 1) := by decide +kernel
theorem dX12_addExpanded_1 : decode cX12_addExpanded 1 = .ok (.iload_n 1, 1) := by decide +kernel
theorem dX12_addExpanded_2 : decode cX12_addExpanded 2 = .ok (.invokevirtual 141, 3) := by decide +kernel
theorem dX12_addExpanded_5 : decode cX12_addExpanded 5 = .ok (.istore_n 2, 1) := by decide +kernel
theorem dX12_addExpanded_6 : decode cX12_addExpanded 6 = .ok (.iconst 0, 1) := by decide +kernel
theorem dX12_addExpanded_7 : decode cX12_addExpanded 7 = .ok (.istore_n 3, 1) := by decide +kernel
theorem dX12_addExpanded_8 : decode cX12_addExpanded 8 = .ok (.iload_n 3, 1) := by decide +kernel
theorem dX12_addExpanded_9 : decode cX12_addExpanded 9 = .ok (.iload_n 2, 1) := by decide +kernel
theorem dX12_addExpanded_10 : decode cX12_addExpanded 10 = .ok (.if_icmp .ge 19, 3) := by decide +kernel
theorem dX12_addExpanded_13 : decode cX12_addExpanded 13 = .ok (.aload_n 0, 1) := by decide +kernel
theorem dX12_addExpanded_14 : decode cX12_addExpanded 14 = .ok (.aload_n 0, 1) := by decide +kernel
theorem dX12_addExpanded_15 : decode cX12_addExpanded 15 = .ok (.getfield 28, 3) := by decide +kernel
theorem dX12_addExpanded_18 : decode cX12_addExpanded 18 = .ok (.iload_n 3, 1) := by decide +kernel
theorem dX12_addExpanded_19 : decode cX12_addExpanded 19 = .ok (.iaload, 1) := by decide +kernel
theorem dX12_addExpanded_20 : decode cX12_addExpanded 20 = .ok (.invokevirtual 145, 3) := by decide +kernel
theorem dX12_addExpanded_23 : decode cX12_addExpanded 23 = .ok (.iinc 3 1, 3) := by decide +kernel
theorem dX12_addExpanded_26 : decode cX12_addExpanded 26 = .ok (.goto (-18), 3) := by decide +kernel
theorem dX12_addExpanded_29 : decode cX12_addExpanded 29 = .ok (.return_, 1) := by decide +kernel
set_option maxRecDepth 100000 in
theorem t_X12_addExpanded_8 (G : MG) (hG : (g_l G).stackTraces = false) (d : Nat) (hd : 4 ≤ d)    : ∀ (n : Nat) (σ : MsSt) (l0 : Nat) (l2 : Int32) (l3 : Int32) (h0 : ms_kd l0 = 13), TrO G mX12_addExpanded d 0 0 0 0 ms_wv 8 [(0, .ref l0), (2, .int l2), (3, .int l3)] [] σ (f_X12_addExpanded_8 n σ l0 l2 l3) := by
  intro n
  induction n with
  | zero => exact fun _ _ _ _ _ => tr_none
  | succ n ih =>
    intro σ l0 l2 l3 h0
    show TrO G mX12_addExpanded d 0 0 0 0 ms_wv 8 [(0, .ref l0), (2, .int l2), (3, .int l3)] [] σ (if l3 < l2 then (ms_ald σ (ms_rf l0 9) l3).bind fun v3 => (f_X12_add σ l0 v3).bind fun s4 => (f_X12_addExpanded_8 n) s4 l0 l2 (l3 + 1) else some σ)
    refine tr_iload_n (i := 2) dX12_addExpanded_8 rfl ?_
    refine tr_iload_n (i := 1) dX12_addExpanded_9 rfl ?_
    refine tr_icge (o := none) (tgt := 29) dX12_addExpanded_10 (by decide) ?_ ?_
    · exact tr_vret rfl rfl (by decide) (by decide) dX12_addExpanded_29
    · refine tr_aload_n (i := 0) dX12_addExpanded_13 rfl ?_
      refine tr_aload_n (i := 0) dX12_addExpanded_14 rfl ?_
      refine tr_getR 12 h0 fl_X12_28 (by decide +kernel) dX12_addExpanded_15 ?_
      refine tr_iload_n (i := 2) dX12_addExpanded_18 rfl ?_
      refine tr_ald (rk_12_9 h0) dX12_addExpanded_19 (fun v3 => ?_)
      refine tr_c_wv (ms_cV (rest := []) (al := [.int v3]) 12 (sp_X12_add G hG (d - 1) (by omega) σ l0 v3 h0) h0 (by decide +kernel) kl_X12_145 fv_X12_add dX12_addExpanded_20 (show _ = some 1 by decide +kernel) (by omega) (Nat.le_of_ble_eq_true rfl) (by decide) (by decide)) (fun s4 => ?_)
      refine tr_iinc (k := 2) (v := (l3 + 1)) (lv' := [(0, .ref l0), (2, .int l2), (3, .int (l3 + 1))]) [1, 2, 0] dX12_addExpanded_23 rfl rfl (by decide) rfl ?_
      refine tr_goto (tgt := 8) dX12_addExpanded_26 (by decide) ?_
      exact (fun s y0 y1 y2 g0 => ih s y0 y1 y2 g0) s4 l0 l2 (l3 + 1) h0
set_option maxRecDepth 100000 in
theorem sp_X12_addExpanded (G : MG) (hG : (g_l G).stackTraces = false) (d : Nat) (hd : 4 ≤ d)   (σ : MsSt) (l0 : Nat) (l1 : Int32) (h0 : ms_kd l0 = 13) : MsSpec G mX12_addExpanded d 0 0 [.ref l0, .int l1] σ ms_wv (f_X12_addExpanded σ l0 l1) := by
  refine ms_start (by decide +kernel) rfl rfl (Nat.le_of_ble_eq_true rfl) ?_
  show TrO G mX12_addExpanded d 0 0 0 0 ms_wv 0 [(0, .ref l0), (1, .int l1)] [] σ (ms_b2 (f_X12_expand σ l0 l1) fun v1 s2 => f_X12_addExpanded_8 ms_fuel s2 l0 v1 0)
  refine tr_aload_n (i := 0) dX12_addExpanded_0 rfl ?_
  refine tr_iload_n (i := 1) dX12_addExpanded_1 rfl ?_
  refine tr_d_wi (ms_cV (rest := []) (al := [.int l1]) 12 (sp_X12_expand G hG (d - 1) (by omega) σ l0 l1 h0) h0 (by decide +kernel) kl_X12_141 fv_X12_expand dX12_addExpanded_2 (show _ = some 1 by decide +kernel) (by omega) (Nat.le_of_ble_eq_true rfl) (by decide) (by decide)) (fun v1 s2 => ?_)
  refine tr_istore_n (lv' := [(0, .ref l0), (2, .int v1)]) [1, 0] dX12_addExpanded_5 (by decide) rfl ?_
  refine tr_iconst (v := 0) dX12_addExpanded_6 (by decide +kernel) ?_
  refine tr_istore_n (lv' := [(0, .ref l0), (2, .int v1), (3, .int 0)]) [1, 2, 0] dX12_addExpanded_7 (by decide) rfl ?_
  exact t_X12_addExpanded_8 G hG d hd ms_fuel s2 l0 v1 0 h0
theorem dX12_layDecomposed_0 : decode cX12_layDecomposed 0 = .ok (.aload_n 0, 1) := by decide +kernel
theorem dX12_layDecomposed_1 : decode cX12_layDecomposed 1 = .ok (.iconst 0, 1) := by decide +kernel
theorem dX12_layDecomposed_2 : decode cX12_layDecomposed 2 = .ok (.putfield 132, 3) := by decide +kernel
theorem dX12_layDecomposed_5 : decode cX12_layDecomposed 5 = .ok (.aload_n 0, 1) := by decide +kernel
theorem dX12_layDecomposed_6 : decode cX12_layDecomposed 6 = .ok (.iconst 0, 1) := by decide +kernel
theorem dX12_layDecomposed_7 : decode cX12_layDecomposed 7 = .ok (.putfield 138, 3) := by decide +kernel
theorem dX12_layDecomposed_10 : decode cX12_layDecomposed 10 = .ok (.iconst 0, 1) := by decide +kernel
theorem dX12_layDecomposed_11 : decode cX12_layDecomposed 11 = .ok (.istore_n 2, 1) := by decide +kernel
theorem dX12_layDecomposed_12 : decode cX12_layDecomposed 12 = .ok (.iload_n 2, 1) := by decide +kernel
theorem dX12_layDecomposed_13 : decode cX12_layDecomposed 13 = .ok (.aload_n 0, 1) := by decide +kernel
theorem dX12_layDecomposed_14 : decode cX12_layDecomposed 14 = .ok (.getfield 9, 3) := by decide +kernel
theorem dX12_layDecomposed_17 : decode cX12_layDecomposed 17 = .ok (.iconst 3, 1) := by decide +kernel
theorem dX12_layDecomposed_18 : decode cX12_layDecomposed 18 = .ok (.iload_n 1, 1) := by decide +kernel
theorem dX12_layDecomposed_19 : decode cX12_layDecomposed 19 = .ok (.iadd, 1) := by decide +kernel
theorem dX12_layDecomposed_20 : decode cX12_layDecomposed 20 = .ok (.iaload, 1) := by decide +kernel
theorem dX12_layDecomposed_21 : decode cX12_layDecomposed 21 = .ok (.if_icmp .ge 23, 3) := by decide +kernel
theorem dX12_layDecomposed_24 : decode cX12_layDecomposed 24 = .ok (.aload_n 0, 1) := by decide +kernel
theorem dX12_layDecomposed_25 : decode cX12_layDecomposed 25 = .ok (.aload_n 0, 1) := by decide +kernel
theorem dX12_layDecomposed_26 : decode cX12_layDecomposed 26 = .ok (.getfield 9, 3) := by decide +kernel
theorem dX12_layDecomposed_29 : decode cX12_layDecomposed 29 = .ok (.iload_n 1, 1) := by decide +kernel
theorem dX12_layDecomposed_30 : decode cX12_layDecomposed 30 = .ok (.iload_n 2, 1) := by decide +kernel
theorem dX12_layDecomposed_31 : decode cX12_layDecomposed 31 = .ok (.invokestatic 149, 3) := by decide +kernel
theorem dX12_layDecomposed_34 : decode cX12_layDecomposed 34 = .ok (.iaload, 1) := by decide +kernel
theorem dX12_layDecomposed_35 : decode cX12_layDecomposed 35 = .ok (.invokevirtual 152, 3) := by decide +kernel
theorem dX12_layDecomposed_38 : decode cX12_layDecomposed 38 = .ok (.iinc 2 1, 3) := by decide +kernel
theorem dX12_layDecomposed_41 : decode cX12_layDecomposed 41 = .ok (.goto (-29), 3) := by decide +kernel
theorem dX12_layDecomposed_44 : decode cX12_layDecomposed 44 = .ok (.return_, 1) := by decide +kernel
set_option maxRecDepth 100000 in
theorem t_X12_layDecomposed_12 (G : MG) (hG : (g_l G).stackTraces = false) (d : Nat) (hd : 5 ≤ d)    : ∀ (n : Nat) (σ : MsSt) (l0 : Nat) (l1 : Int32) (l2 : Int32) (h0 : ms_kd l0 = 13), TrO G mX12_layDecomposed d 0 0 0 0 ms_wv 12 [(0, .ref l0), (1, .int l1), (2, .int l2)] [] σ (f_X12_layDecomposed_12 n σ l0 l1 l2) := by
  intro n
  induction n with
  | zero => exact fun _ _ _ _ _ => tr_none
  | succ n ih =>
    intro σ l0 l1 l2 h0
    show TrO G mX12_layDecomposed d 0 0 0 0 ms_wv 12 [(0, .ref l0), (1, .int l1), (2, .int l2)] [] σ ((ms_ald σ (ms_rf l0 0) (3 + l1)).bind fun v3 => if l2 < v3 then (f_X12_spot σ l1 l2).bind fun v4 => (ms_ald σ (ms_rf l0 0) v4).bind fun v5 => (f_X12_addExpanded σ l0 v5).bind fun s6 => (f_X12_layDecomposed_12 n) s6 l0 l1 (l2 + 1) else some σ)
    refine tr_iload_n (i := 2) dX12_layDecomposed_12 rfl ?_
    refine tr_aload_n (i := 0) dX12_layDecomposed_13 rfl ?_
    refine tr_getR 12 h0 fl_X12_9 (by decide +kernel) dX12_layDecomposed_14 ?_
    refine tr_iconst (v := 3) dX12_layDecomposed_17 (by decide +kernel) ?_
    refine tr_iload_n (i := 1) dX12_layDecomposed_18 rfl ?_
    refine tr_iadd dX12_layDecomposed_19 ?_
    refine tr_ald (rk_12_0 h0) dX12_layDecomposed_20 (fun v3 => ?_)
    refine tr_icge (o := none) (tgt := 44) dX12_layDecomposed_21 (by decide) ?_ ?_
    · exact tr_vret rfl rfl (by decide) (by decide) dX12_layDecomposed_44
    · refine tr_aload_n (i := 0) dX12_layDecomposed_24 rfl ?_
      refine tr_aload_n (i := 0) dX12_layDecomposed_25 rfl ?_
      refine tr_getR 12 h0 fl_X12_9 (by decide +kernel) dX12_layDecomposed_26 ?_
      refine tr_iload_n (i := 1) dX12_layDecomposed_29 rfl ?_
      refine tr_iload_n (i := 2) dX12_layDecomposed_30 rfl ?_
      refine tr_c_i (ms_cS (rest := [.ref (ms_rf l0 0), .ref l0]) (al := [.int l1, .int l2]) (sp_X12_spot G hG (d - 1) (by omega) σ l1 l2) kl_X12_149 fs_X12_spot dX12_layDecomposed_31 (show _ = some 2 by decide +kernel) (by omega) (Nat.le_of_ble_eq_true rfl) (by decide) (by decide)) (fun v4 => ?_)
      refine tr_ald (rk_12_0 h0) dX12_layDecomposed_34 (fun v5 => ?_)
      refine tr_c_wv (ms_cV (rest := []) (al := [.int v5]) 12 (sp_X12_addExpanded G hG (d - 1) (by omega) σ l0 v5 h0) h0 (by decide +kernel) kl_X12_152 fv_X12_addExpanded dX12_layDecomposed_35 (show _ = some 1 by decide +kernel) (by omega) (Nat.le_of_ble_eq_true rfl) (by decide) (by decide)) (fun s6 => ?_)
      refine tr_iinc (k := 2) (v := (l2 + 1)) (lv' := [(0, .ref l0), (1, .int l1), (2, .int (l2 + 1))]) [1, 2, 0] dX12_layDecomposed_38 rfl rfl (by decide) rfl ?_
      refine tr_goto (tgt := 12) dX12_layDecomposed_41 (by decide) ?_
      exact (fun s y0 y1 y2 g0 => ih s y0 y1 y2 g0) s6 l0 l1 (l2 + 1) h0
set_option maxRecDepth 100000 in
theorem sp_X12_layDecomposed (G : MG) (hG : (g_l G).stackTraces = false) (d : Nat) (hd : 5 ≤ d)   (σ : MsSt) (l0 : Nat) (l1 : Int32) (h0 : ms_kd l0 = 13) : MsSpec G mX12_layDecomposed d 0 0 [.ref l0, .int l1] σ ms_wv (f_X12_layDecomposed σ l0 l1) := by
  refine ms_start (by decide +kernel) rfl rfl (Nat.le_of_ble_eq_true rfl) ?_
  show TrO G mX12_layDecomposed d 0 0 0 0 ms_wv 0 [(0, .ref l0), (1, .int l1)] [] σ (ms_nm (ms_si σ l0 11 0) fun s1 => ms_nm (ms_si s1 l0 12 0) fun s2 => f_X12_layDecomposed_12 ms_fuel s2 l0 l1 0)
  refine tr_aload_n (i := 0) dX12_layDecomposed_0 rfl ?_
  refine tr_iconst (v := 0) dX12_layDecomposed_1 (by decide +kernel) ?_
  refine tr_putI 12 h0 fl_X12_132 (by decide +kernel) dX12_layDecomposed_2 ?_
  refine ms_ltS (fun s1 => ?_)
  refine tr_aload_n (i := 0) dX12_layDecomposed_5 rfl ?_
  refine tr_iconst (v := 0) dX12_layDecomposed_6 (by decide +kernel) ?_
  refine tr_putI 12 h0 fl_X12_138 (by decide +kernel) dX12_layDecomposed_7 ?_
  refine ms_ltS (fun s2 => ?_)
  refine tr_iconst (v := 0) dX12_layDecomposed_10 (by decide +kernel) ?_
  refine tr_istore_n (lv' := [(0, .ref l0), (1, .int l1), (2, .int 0)]) [1, 2, 0] dX12_layDecomposed_11 (by decide) rfl ?_
  exact t_X12_layDecomposed_12 G hG d hd ms_fuel s2 l0 l1 0 h0
theorem dX12_findPair_0 : decode cX12_findPair 0 = .ok (.iconst 0, 1) := by decide +kernel
theorem dX12_findPair_1 : decode cX12_findPair 1 = .ok (.istore_n 3, 1) := by decide +kernel
theorem dX12_findPair_2 : decode cX12_findPair 2 = .ok (.iload_n 3, 1) := by decide +kernel
theorem dX12_findPair_3 : decode cX12_findPair 3 = .ok (.aload_n 0, 1) := by decide +kernel
theorem dX12_findPair_4 : decode cX12_findPair 4 = .ok (.iconst 0, 1) := by decide +kernel
theorem dX12_findPair_5 : decode cX12_findPair 5 = .ok (.iaload, 1) := by decide +kernel
theorem dX12_findPair_6 : decode cX12_findPair 6 = .ok (.if_icmp .ge 44, 3) := by decide +kernel
theorem dX12_findPair_9 : decode cX12_findPair 9 = .ok (.aload_n 0, 1) := by decide +kernel
theorem dX12_findPair_10 : decode cX12_findPair 10 = .ok (.iload_n 3, 1) := by decide +kernel
theorem dX12_findPair_11 : decode cX12_findPair 11 = .ok (.iconst 0, 1) := by decide +kernel
theorem dX12_findPair_12 : decode cX12_findPair 12 = .ok (.invokestatic 114, 3) := by decide +kernel
theorem dX12_findPair_15 : decode cX12_findPair 15 = .ok (.iaload, 1) := by decide +kernel
theorem dX12_findPair_16 : decode cX12_findPair 16 = .ok (.iconst 2, 1) := by decide +kernel
theorem dX12_findPair_17 : decode cX12_findPair 17 = .ok (.if_icmp .ne 27, 3) := by decide +kernel
theorem dX12_findPair_20 : decode cX12_findPair 20 = .ok (.aload_n 0, 1) := by decide +kernel
theorem dX12_findPair_21 : decode cX12_findPair 21 = .ok (.iload_n 3, 1) := by decide +kernel
theorem dX12_findPair_22 : decode cX12_findPair 22 = .ok (.iconst 3, 1) := by decide +kernel
theorem dX12_findPair_23 : decode cX12_findPair 23 = .ok (.invokestatic 114, 3) := by decide +kernel
theorem dX12_findPair_26 : decode cX12_findPair 26 = .ok (.iaload, 1) := by decide +kernel
theorem dX12_findPair_27 : decode cX12_findPair 27 = .ok (.iload_n 1, 1) := by decide +kernel
theorem dX12_findPair_28 : decode cX12_findPair 28 = .ok (.if_icmp .ne 16, 3) := by decide +kernel
theorem dX12_findPair_31 : decode cX12_findPair 31 = .ok (.aload_n 0, 1) := by decide +kernel
theorem dX12_findPair_32 : decode cX12_findPair 32 = .ok (.iload_n 3, 1) := by decide +kernel
theorem dX12_findPair_33 : decode cX12_findPair 33 = .ok (.iconst 4, 1) := by decide +kernel
theorem dX12_findPair_34 : decode cX12_findPair 34 = .ok (.invokestatic 114, 3) := by decide +kernel
theorem dX12_findPair_37 : decode cX12_findPair 37 = .ok (.iaload, 1) := by decide +kernel
theorem dX12_findPair_38 : decode cX12_findPair 38 = .ok (.iload_n 2, 1) := by decide +kernel
theorem dX12_findPair_39 : decode cX12_findPair 39 = .ok (.if_icmp .ne 5, 3) := by decide +kernel
theorem dX12_findPair_42 : decode cX12_findPair 42 = .ok (.iload_n 3, 1) := by decide +kernel
theorem dX12_findPair_43 : decode cX12_findPair 43 = .ok (.ireturn, 1) := by decide +kernel
theorem dX12_findPair_44 : decode cX12_findPair 44 = .ok (.iinc 3 1, 3) := by decide +kernel
theorem dX12_findPair_47 : decode cX12_findPair 47 = .ok (.goto (-45), 3) := by decide +kernel
theorem dX12_findPair_50 : decode cX12_findPair 50 = .ok (.iconst (-1), 1) := by decide +kernel
theorem dX12_findPair_51 : decode cX12_findPair 51 = .ok (.ireturn, 1) := by decide +kernel
set_option maxRecDepth 100000 in
theorem t_X12_findPair_2 (G : MG) (hG : (g_l G).stackTraces = false) (d : Nat) (hd : 1 ≤ d)   (σ : MsSt)  : ∀ (n : Nat) (l0 : Nat) (l1 : Int32) (l2 : Int32) (l3 : Int32) (h0 : ms_kd l0 = 20), TrO G mX12_findPair d 0 0 0 0 (ms_ki σ) 2 [(0, .ref l0), (1, .int l1), (2, .int l2), (3, .int l3)] [] σ (f_X12_findPair_2 σ n l0 l1 l2 l3) := by
  intro n
  induction n with
  | zero => exact fun _ _ _ _ _ => tr_none
  | succ n ih =>
    intro l0 l1 l2 l3 h0
    show TrO G mX12_findPair d 0 0 0 0 (ms_ki σ) 2 [(0, .ref l0), (1, .int l1), (2, .int l2), (3, .int l3)] [] σ ((ms_ald σ l0 0).bind fun v1 => if l3 < v1 then (f_X12_of σ l3 0).bind fun v2 => (ms_ald σ l0 v2).bind fun v3 => if v3 = 2 then (f_X12_of σ l3 3).bind fun v4 => (ms_ald σ l0 v4).bind fun v5 => if v5 = l1 then (f_X12_of σ l3 4).bind fun v6 => (ms_ald σ l0 v6).bind fun v7 => if v7 = l2 then some l3 else (f_X12_findPair_2 σ n) l0 l1 l2 (l3 + 1) else (f_X12_findPair_2 σ n) l0 l1 l2 (l3 + 1) else (f_X12_findPair_2 σ n) l0 l1 l2 (l3 + 1) else some (-1))
    refine tr_iload_n (i := 3) dX12_findPair_2 rfl ?_
    refine tr_aload_n (i := 0) dX12_findPair_3 rfl ?_
    refine tr_iconst (v := 0) dX12_findPair_4 (by decide +kernel) ?_
    refine tr_ald h0 dX12_findPair_5 (fun v1 => ?_)
    refine tr_icge (o := none) (tgt := 50) dX12_findPair_6 (by decide) ?_ ?_
    · refine tr_iconst (v := (-1)) dX12_findPair_50 (by decide +kernel) ?_
      exact tr_iret rfl rfl (by decide) (by decide) dX12_findPair_51
    · refine tr_aload_n (i := 0) dX12_findPair_9 rfl ?_
      refine tr_iload_n (i := 3) dX12_findPair_10 rfl ?_
      refine tr_iconst (v := 0) dX12_findPair_11 (by decide +kernel) ?_
      refine tr_c_i (ms_cS (rest := [.ref l0]) (al := [.int l3, .int 0]) (sp_X12_of G hG (d - 1) (by omega) σ l3 0) kl_X12_114 fs_X12_of dX12_findPair_12 (show _ = some 2 by decide +kernel) (by omega) (Nat.le_of_ble_eq_true rfl) (by decide) (by decide)) (fun v2 => ?_)
      refine tr_ald h0 dX12_findPair_15 (fun v3 => ?_)
      refine tr_iconst (v := 2) dX12_findPair_16 (by decide +kernel) ?_
      refine tr_icne (o := none) (tgt := 44) dX12_findPair_17 (by decide) ?_ ?_
      · refine tr_iinc (k := 3) (v := (l3 + 1)) (lv' := [(0, .ref l0), (1, .int l1), (2, .int l2), (3, .int (l3 + 1))]) [1, 2, 3, 0] dX12_findPair_44 rfl rfl (by decide) rfl ?_
        refine tr_goto (tgt := 2) dX12_findPair_47 (by decide) ?_
        exact (fun y0 y1 y2 y3 g0 => ih y0 y1 y2 y3 g0) l0 l1 l2 (l3 + 1) h0
      · refine tr_aload_n (i := 0) dX12_findPair_20 rfl ?_
        refine tr_iload_n (i := 3) dX12_findPair_21 rfl ?_
        refine tr_iconst (v := 3) dX12_findPair_22 (by decide +kernel) ?_
        refine tr_c_i (ms_cS (rest := [.ref l0]) (al := [.int l3, .int 3]) (sp_X12_of G hG (d - 1) (by omega) σ l3 3) kl_X12_114 fs_X12_of dX12_findPair_23 (show _ = some 2 by decide +kernel) (by omega) (Nat.le_of_ble_eq_true rfl) (by decide) (by decide)) (fun v4 => ?_)
        refine tr_ald h0 dX12_findPair_26 (fun v5 => ?_)
        refine tr_iload_n (i := 1) dX12_findPair_27 rfl ?_
        refine tr_icne (o := none) (tgt := 44) dX12_findPair_28 (by decide) ?_ ?_
        · refine tr_iinc (k := 3) (v := (l3 + 1)) (lv' := [(0, .ref l0), (1, .int l1), (2, .int l2), (3, .int (l3 + 1))]) [1, 2, 3, 0] dX12_findPair_44 rfl rfl (by decide) rfl ?_
          refine tr_goto (tgt := 2) dX12_findPair_47 (by decide) ?_
          exact (fun y0 y1 y2 y3 g0 => ih y0 y1 y2 y3 g0) l0 l1 l2 (l3 + 1) h0
        · refine tr_aload_n (i := 0) dX12_findPair_31 rfl ?_
          refine tr_iload_n (i := 3) dX12_findPair_32 rfl ?_
          refine tr_iconst (v := 4) dX12_findPair_33 (by decide +kernel) ?_
          refine tr_c_i (ms_cS (rest := [.ref l0]) (al := [.int l3, .int 4]) (sp_X12_of G hG (d - 1) (by omega) σ l3 4) kl_X12_114 fs_X12_of dX12_findPair_34 (show _ = some 2 by decide +kernel) (by omega) (Nat.le_of_ble_eq_true rfl) (by decide) (by decide)) (fun v6 => ?_)
          refine tr_ald h0 dX12_findPair_37 (fun v7 => ?_)
          refine tr_iload_n (i := 2) dX12_findPair_38 rfl ?_
          refine tr_icne (o := none) (tgt := 44) dX12_findPair_39 (by decide) ?_ ?_
          · refine tr_iinc (k := 3) (v := (l3 + 1)) (lv' := [(0, .ref l0), (1, .int l1), (2, .int l2), (3, .int (l3 + 1))]) [1, 2, 3, 0] dX12_findPair_44 rfl rfl (by decide) rfl ?_
            refine tr_goto (tgt := 2) dX12_findPair_47 (by decide) ?_
            exact (fun y0 y1 y2 y3 g0 => ih y0 y1 y2 y3 g0) l0 l1 l2 (l3 + 1) h0
          · refine tr_iload_n (i := 3) dX12_findPair_42 rfl ?_
            exact tr_iret rfl rfl (by decide) (by decide) dX12_findPair_43
set_option maxRecDepth 100000 in
theorem sp_X12_findPair (G : MG) (hG : (g_l G).stackTraces = false) (d : Nat) (hd : 1 ≤ d)   (σ : MsSt) (l0 : Nat) (l1 : Int32) (l2 : Int32) (h0 : ms_kd l0 = 20) : MsSpec G mX12_findPair d 0 0 [.ref l0, .int l1, .int l2] σ (ms_ki σ) (f_X12_findPair σ l0 l1 l2) := by
  refine ms_start (by decide +kernel) rfl rfl (Nat.le_of_ble_eq_true rfl) ?_
  show TrO G mX12_findPair d 0 0 0 0 (ms_ki σ) 0 [(0, .ref l0), (1, .int l1), (2, .int l2)] [] σ (f_X12_findPair_2 σ ms_fuel l0 l1 l2 0)
  refine tr_iconst (v := 0) dX12_findPair_0 (by decide +kernel) ?_
  refine tr_istore_n (lv' := [(0, .ref l0), (1, .int l1), (2, .int l2), (3, .int 0)]) [1, 2, 3, 0] dX12_findPair_1 (by decide) rfl ?_
  exact t_X12_findPair_2 G hG d hd σ ms_fuel l0 l1 l2 0 h0
theorem dX12_layComposed_0 : decode cX12_layComposed 0 = .ok (.aload_n 0, 1) := by decide +kernel
theorem dX12_layComposed_1 : decode cX12_layComposed 1 = .ok (.iconst 0, 1) := by decide +kernel
theorem dX12_layComposed_2 : decode cX12_layComposed 2 = .ok (.putfield 155, 3) := by decide +kernel
theorem dX12_layComposed_5 : decode cX12_layComposed 5 = .ok (.iconst (-1), 1) := by decide +kernel
theorem dX12_layComposed_6 : decode cX12_layComposed 6 = .ok (.istore_n 1, 1) := by decide +kernel
theorem dX12_layComposed_7 : decode cX12_layComposed 7 = .ok (.iconst (-1), 1) := by decide +kernel
theorem dX12_layComposed_8 : decode cX12_layComposed 8 = .ok (.istore_n 2, 1) := by decide +kernel
theorem dX12_layComposed_9 : decode cX12_layComposed 9 = .ok (.lconst 0, 1) := by decide +kernel
theorem dX12_layComposed_10 : decode cX12_layComposed 10 = .ok (.lstore_n 3, 1) := by decide +kernel
theorem dX12_layComposed_11 : decode cX12_layComposed 11 = .ok (.iconst 0, 1) := by decide +kernel
theorem dX12_layComposed_12 : decode cX12_layComposed 12 = .ok (.istore 5, 2) := by decide +kernel
theorem dX12_layComposed_14 : decode cX12_layComposed 14 = .ok (.iload 5, 2) := by decide +kernel
theorem dX12_layComposed_16 : decode cX12_layComposed 16 = .ok (.aload_n 0, 1) := by decide +kernel
theorem dX12_layComposed_17 : decode cX12_layComposed 17 = .ok (.getfield 132, 3) := by decide +kernel
theorem dX12_layComposed_20 : decode cX12_layComposed 20 = .ok (.if_icmp .ge 216, 3) := by decide +kernel
theorem dX12_layComposed_23 : decode cX12_layComposed 23 = .ok (.aload_n 0, 1) := by decide +kernel
theorem dX12_layComposed_24 : decode cX12_layComposed 24 = .ok (.getfield 31, 3) := by decide +kernel
theorem dX12_layComposed_27 : decode cX12_layComposed 27 = .ok (.iload 5, 2) := by decide +kernel
theorem dX12_layComposed_29 : decode cX12_layComposed 29 = .ok (.iaload, 1) := by decide +kernel
theorem dX12_layComposed_30 : decode cX12_layComposed 30 = .ok (.istore 6, 2) := by decide +kernel
theorem dX12_layComposed_32 : decode cX12_layComposed 32 = .ok (.aload_n 0, 1) := by decide +kernel
theorem dX12_layComposed_33 : decode cX12_layComposed 33 = .ok (.iload 6, 2) := by decide +kernel
theorem dX12_layComposed_35 : decode cX12_layComposed 35 = .ok (.invokevirtual 135, 3) := by decide +kernel
theorem dX12_layComposed_38 : decode cX12_layComposed 38 = .ok (.ifCond .ne 7, 3) := by decide +kernel
theorem dX12_layComposed_41 : decode cX12_layComposed 41 = .ok (.iconst 1, 1) := by decide +kernel
theorem dX12_layComposed_42 : decode cX12_layComposed 42 = .ok (.goto 4, 3) := by decide +kernel
theorem dX12_layComposed_45 : decode cX12_layComposed 45 = .ok (.iconst 0, 1) := by decide +kernel
theorem dX12_layComposed_46 : decode cX12_layComposed 46 = .ok (.istore 7, 2) := by decide +kernel
theorem dX12_layComposed_48 : decode cX12_layComposed 48 = .ok (.iload 7, 2) := by decide +kernel
theorem dX12_layComposed_50 : decode cX12_layComposed 50 = .ok (.ifCond .ne 32, 3) := by decide +kernel
theorem dX12_layComposed_53 : decode cX12_layComposed 53 = .ok (.iload_n 1, 1) := by decide +kernel
theorem dX12_layComposed_54 : decode cX12_layComposed 54 = .ok (.iconst (-1), 1) := by decide +kernel
theorem dX12_layComposed_55 : decode cX12_layComposed 55 = .ok (.if_icmp .eq 27, 3) := by decide +kernel
theorem dX12_layComposed_58 : decode cX12_layComposed 58 = .ok (.lload_n 3, 1) := by decide +kernel
theorem dX12_layComposed_59 : decode cX12_layComposed 59 = .ok (.aload_n 0, 1) := by decide +kernel
theorem dX12_layComposed_60 : decode cX12_layComposed 60 = .ok (.getfield 9, 3) := by decide +kernel
theorem dX12_layComposed_63 : decode cX12_layComposed 63 = .ok (.iload 6, 2) := by decide +kernel
theorem dX12_layComposed_65 : decode cX12_layComposed 65 = .ok (.iconst 1, 1) := by decide +kernel
theorem dX12_layComposed_66 : decode cX12_layComposed 66 = .ok (.invokestatic 114, 3) := by decide +kernel
theorem dX12_layComposed_69 : decode cX12_layComposed 69 = .ok (.iaload, 1) := by decide +kernel
theorem dX12_layComposed_70 : decode cX12_layComposed 70 = .ok (.lshr, 1) := by decide +kernel
theorem dX12_layComposed_71 : decode cX12_layComposed 71 = .ok (.lconst 1, 1) := by decide +kernel
theorem dX12_layComposed_72 : decode cX12_layComposed 72 = .ok (.land, 1) := by decide +kernel
theorem dX12_layComposed_73 : decode cX12_layComposed 73 = .ok (.lconst 0, 1) := by decide +kernel
theorem dX12_layComposed_74 : decode cX12_layComposed 74 = .ok (.lcmp, 1) := by decide +kernel
theorem dX12_layComposed_75 : decode cX12_layComposed 75 = .ok (.ifCond .ne 7, 3) := by decide +kernel
theorem dX12_layComposed_78 : decode cX12_layComposed 78 = .ok (.iconst 1, 1) := by decide +kernel
theorem dX12_layComposed_79 : decode cX12_layComposed 79 = .ok (.goto 4, 3) := by decide +kernel
theorem dX12_layComposed_82 : decode cX12_layComposed 82 = .ok (.iconst 0, 1) := by decide +kernel
theorem dX12_layComposed_83 : decode cX12_layComposed 83 = .ok (.istore 8, 2) := by decide +kernel
theorem dX12_layComposed_85 : decode cX12_layComposed 85 = .ok (.iload 8, 2) := by decide +kernel
theorem dX12_layComposed_87 : decode cX12_layComposed 87 = .ok (.ifCond .eq 21, 3) := by decide +kernel
theorem dX12_layComposed_90 : decode cX12_layComposed 90 = .ok (.aload_n 0, 1) := by decide +kernel
theorem dX12_layComposed_91 : decode cX12_layComposed 91 = .ok (.getfield 9, 3) := by decide +kernel
theorem dX12_layComposed_94 : decode cX12_layComposed 94 = .ok (.aload_n 0, 1) := by decide +kernel
theorem dX12_layComposed_95 : decode cX12_layComposed 95 = .ok (.getfield 34, 3) := by decide +kernel
theorem dX12_layComposed_98 : decode cX12_layComposed 98 = .ok (.iload_n 1, 1) := by decide +kernel
theorem dX12_layComposed_99 : decode cX12_layComposed 99 = .ok (.iaload, 1) := by decide +kernel
theorem dX12_layComposed_100 : decode cX12_layComposed 100 = .ok (.iload 6, 2) := by decide +kernel
theorem dX12_layComposed_102 : decode cX12_layComposed 102 = .ok (.invokestatic 158, 3) := by decide +kernel
theorem dX12_layComposed_105 : decode cX12_layComposed 105 = .ok (.goto 4, 3) := by decide +kernel
theorem dX12_layComposed_108 : decode cX12_layComposed 108 = .ok (.iconst (-1), 1) := by decide +kernel
theorem dX12_layComposed_109 : decode cX12_layComposed 109 = .ok (.istore 9, 2) := by decide +kernel
theorem dX12_layComposed_111 : decode cX12_layComposed 111 = .ok (.iload 9, 2) := by decide +kernel
theorem dX12_layComposed_113 : decode cX12_layComposed 113 = .ok (.iconst (-1), 1) := by decide +kernel
theorem dX12_layComposed_114 : decode cX12_layComposed 114 = .ok (.if_icmp .eq 28, 3) := by decide +kernel
theorem dX12_layComposed_117 : decode cX12_layComposed 117 = .ok (.aload_n 0, 1) := by decide +kernel
theorem dX12_layComposed_118 : decode cX12_layComposed 118 = .ok (.getfield 9, 3) := by decide +kernel
theorem dX12_layComposed_121 : decode cX12_layComposed 121 = .ok (.iload 9, 2) := by decide +kernel
theorem dX12_layComposed_123 : decode cX12_layComposed 123 = .ok (.iconst 5, 1) := by decide +kernel
theorem dX12_layComposed_124 : decode cX12_layComposed 124 = .ok (.invokestatic 114, 3) := by decide +kernel
theorem dX12_layComposed_127 : decode cX12_layComposed 127 = .ok (.iaload, 1) := by decide +kernel
theorem dX12_layComposed_128 : decode cX12_layComposed 128 = .ok (.ifCond .ne 14, 3) := by decide +kernel
theorem dX12_layComposed_131 : decode cX12_layComposed 131 = .ok (.aload_n 0, 1) := by decide +kernel
theorem dX12_layComposed_132 : decode cX12_layComposed 132 = .ok (.getfield 34, 3) := by decide +kernel
theorem dX12_layComposed_135 : decode cX12_layComposed 135 = .ok (.iload_n 1, 1) := by decide +kernel
theorem dX12_layComposed_136 : decode cX12_layComposed 136 = .ok (.iload 9, 2) := by decide +kernel
theorem dX12_layComposed_138 : decode cX12_layComposed 138 = .ok (.iastore, 1) := by decide +kernel
theorem dX12_layComposed_139 : decode cX12_layComposed 139 = .ok (.goto 91, 3) := by decide +kernel
theorem dX12_layComposed_142 : decode cX12_layComposed 142 = .ok (.iload 7, 2) := by decide +kernel
theorem dX12_layComposed_144 : decode cX12_layComposed 144 = .ok (.ifCond .ne 8, 3) := by decide +kernel
theorem dX12_layComposed_147 : decode cX12_layComposed 147 = .ok (.iload_n 2, 1) := by decide +kernel
theorem dX12_layComposed_148 : decode cX12_layComposed 148 = .ok (.iconst (-1), 1) := by decide +kernel
theorem dX12_layComposed_149 : decode cX12_layComposed 149 = .ok (.if_icmp .ne 9, 3) := by decide +kernel
theorem dX12_layComposed_152 : decode cX12_layComposed 152 = .ok (.iload_n 2, 1) := by decide +kernel
theorem dX12_layComposed_153 : decode cX12_layComposed 153 = .ok (.iconst 1, 1) := by decide +kernel
theorem dX12_layComposed_154 : decode cX12_layComposed 154 = .ok (.iadd, 1) := by decide +kernel
theorem dX12_layComposed_155 : decode cX12_layComposed 155 = .ok (.goto 4, 3) := by decide +kernel
theorem dX12_layComposed_158 : decode cX12_layComposed 158 = .ok (.iload_n 2, 1) := by decide +kernel
theorem dX12_layComposed_159 : decode cX12_layComposed 159 = .ok (.istore_n 2, 1) := by decide +kernel
theorem dX12_layComposed_160 : decode cX12_layComposed 160 = .ok (.iload 7, 2) := by decide +kernel
theorem dX12_layComposed_162 : decode cX12_layComposed 162 = .ok (.ifCond .eq 7, 3) := by decide +kernel
theorem dX12_layComposed_165 : decode cX12_layComposed 165 = .ok (.lconst 0, 1) := by decide +kernel
theorem dX12_layComposed_166 : decode cX12_layComposed 166 = .ok (.goto 18, 3) := by decide +kernel
theorem dX12_layComposed_169 : decode cX12_layComposed 169 = .ok (.lload_n 3, 1) := by decide +kernel
theorem dX12_layComposed_170 : decode cX12_layComposed 170 = .ok (.lconst 1, 1) := by decide +kernel
theorem dX12_layComposed_171 : decode cX12_layComposed 171 = .ok (.aload_n 0, 1) := by decide +kernel
theorem dX12_layComposed_172 : decode cX12_layComposed 172 = .ok (.getfield 9, 3) := by decide +kernel
theorem dX12_layComposed_175 : decode cX12_layComposed 175 = .ok (.iload 6, 2) := by decide +kernel
theorem dX12_layComposed_177 : decode cX12_layComposed 177 = .ok (.iconst 1, 1) := by decide +kernel
theorem dX12_layComposed_178 : decode cX12_layComposed 178 = .ok (.invokestatic 114, 3) := by decide +kernel
theorem dX12_layComposed_181 : decode cX12_layComposed 181 = .ok (.iaload, 1) := by decide +kernel
theorem dX12_layComposed_182 : decode cX12_layComposed 182 = .ok (.lshl, 1) := by decide +kernel
theorem dX12_layComposed_183 : decode cX12_layComposed 183 = .ok (.lor, 1) := by decide +kernel
theorem dX12_layComposed_184 : decode cX12_layComposed 184 = .ok (.lstore_n 3, 1) := by decide +kernel
theorem dX12_layComposed_185 : decode cX12_layComposed 185 = .ok (.iload 7, 2) := by decide +kernel
theorem dX12_layComposed_187 : decode cX12_layComposed 187 = .ok (.ifCond .eq 10, 3) := by decide +kernel
theorem dX12_layComposed_190 : decode cX12_layComposed 190 = .ok (.aload_n 0, 1) := by decide +kernel
theorem dX12_layComposed_191 : decode cX12_layComposed 191 = .ok (.getfield 155, 3) := by decide +kernel
theorem dX12_layComposed_194 : decode cX12_layComposed 194 = .ok (.goto 4, 3) := by decide +kernel
theorem dX12_layComposed_197 : decode cX12_layComposed 197 = .ok (.iload_n 1, 1) := by decide +kernel
theorem dX12_layComposed_198 : decode cX12_layComposed 198 = .ok (.istore_n 1, 1) := by decide +kernel
theorem dX12_layComposed_199 : decode cX12_layComposed 199 = .ok (.aload_n 0, 1) := by decide +kernel
theorem dX12_layComposed_200 : decode cX12_layComposed 200 = .ok (.getfield 34, 3) := by decide +kernel
theorem dX12_layComposed_203 : decode cX12_layComposed 203 = .ok (.aload_n 0, 1) := by decide +kernel
theorem dX12_layComposed_204 : decode cX12_layComposed 204 = .ok (.getfield 155, 3) := by decide +kernel
theorem dX12_layComposed_207 : decode cX12_layComposed 207 = .ok (.iload 6, 2) := by decide +kernel
theorem dX12_layComposed_209 : decode cX12_layComposed 209 = .ok (.iastore, 1) := by decide +kernel
theorem dX12_layComposed_210 : decode cX12_layComposed 210 = .ok (.aload_n 0, 1) := by decide +kernel
theorem dX12_layComposed_211 : decode cX12_layComposed 211 = .ok (.getfield 37, 3) := by decide +kernel
theorem dX12_layComposed_214 : decode cX12_layComposed 214 = .ok (.aload_n 0, 1) := by decide +kernel
theorem dX12_layComposed_215 : decode cX12_layComposed 215 = .ok (.getfield 155, 3) := by decide +kernel
theorem dX12_layComposed_218 : decode cX12_layComposed 218 = .ok (.iload_n 2, 1) := by decide +kernel
theorem dX12_layComposed_219 : decode cX12_layComposed 219 = .ok (.iastore, 1) := by decide +kernel
theorem dX12_layComposed_220 : decode cX12_layComposed 220 = .ok (.aload_n 0, 1) := by decide +kernel
theorem dX12_layComposed_221 : decode cX12_layComposed 221 = .ok (.dup, 1) := by decide +kernel
theorem dX12_layComposed_222 : decode cX12_layComposed 222 = .ok (.getfield 155, 3) := by decide +kernel
theorem dX12_layComposed_225 : decode cX12_layComposed 225 = .ok (.iconst 1, 1) := by decide +kernel
theorem dX12_layComposed_226 : decode cX12_layComposed 226 = .ok (.iadd, 1) := by decide +kernel
theorem dX12_layComposed_227 : decode cX12_layComposed 227 = .ok (.putfield 155, 3) := by decide +kernel
theorem dX12_layComposed_230 : decode cX12_layComposed 230 = .ok (.iinc 5 1, 3) := by decide +kernel
theorem dX12_layComposed_233 : decode cX12_layComposed 233 = .ok (.goto (-219), 3) := by decide +kernel
theorem dX12_layComposed_236 : decode cX12_layComposed 236 = .ok (.return_, 1) := by decide +kernel
set_option maxRecDepth 100000 in
theorem t_X12_layComposed_198 (G : MG) (hG : (g_l G).stackTraces = false) (d : Nat) (hd : 3 ≤ d)   (k14 : MsSt → Nat → Int32 → Int32 → Int64 → Int32 → Option (MsSt)) (hk14 : ∀ (s : MsSt) (x1 : Nat) (x2 : Int32) (x3 : Int32) (x4 : Int64) (x5 : Int32), ms_kd x1 = 13 → TrO G mX12_layComposed d 0 0 0 0 ms_wv 14 [(0, .ref x1), (1, .int x2), (2, .int x3), (3, .long x4), (5, .int x5)] [] s (k14 s x1 x2 x3 x4 x5)) (σ : MsSt) (l0 : Nat) (l2 : Int32) (l3 : Int64) (l5 : Int32) (l6 : Int32) (t0 : Int32) (h0 : ms_kd l0 = 13) : TrO G mX12_layComposed d 0 0 0 0 ms_wv 198 [(0, .ref l0), (2, .int l2), (3, .long l3), (5, .int l5), (6, .int l6)] [.int t0] σ (f_X12_layComposed_198 k14 σ l0 l2 l3 l5 l6 t0) := by
  show TrO G mX12_layComposed d 0 0 0 0 ms_wv 198 [(0, .ref l0), (2, .int l2), (3, .long l3), (5, .int l5), (6, .int l6)] [.int t0] σ ((ms_ast σ (ms_rf l0 13) (ms_i σ l0 15) l6).bind fun s6 => (ms_ast s6 (ms_rf l0 14) (ms_i s6 l0 15) l2).bind fun s7 => ms_nm (ms_si s7 l0 15 ((ms_i s7 l0 15) + 1)) fun s8 => k14 s8 l0 t0 l2 l3 (l5 + 1))
  refine tr_istore_n (lv' := [(0, .ref l0), (1, .int t0), (2, .int l2), (3, .long l3), (5, .int l5), (6, .int l6)]) [1, 0, 2, 3, 4, 5] dX12_layComposed_198 (by decide) rfl ?_
  refine tr_aload_n (i := 0) dX12_layComposed_199 rfl ?_
  refine tr_getR 12 h0 fl_X12_34 (by decide +kernel) dX12_layComposed_200 ?_
  refine tr_aload_n (i := 0) dX12_layComposed_203 rfl ?_
  refine tr_getI 12 h0 fl_X12_155 (by decide +kernel) dX12_layComposed_204 ?_
  refine tr_iload (i := 5) dX12_layComposed_207 rfl ?_
  refine tr_ast (rk_12_13 h0) dX12_layComposed_209 (fun s6 => ?_)
  refine tr_aload_n (i := 0) dX12_layComposed_210 rfl ?_
  refine tr_getR 12 h0 fl_X12_37 (by decide +kernel) dX12_layComposed_211 ?_
  refine tr_aload_n (i := 0) dX12_layComposed_214 rfl ?_
  refine tr_getI 12 h0 fl_X12_155 (by decide +kernel) dX12_layComposed_215 ?_
  refine tr_iload_n (i := 2) dX12_layComposed_218 rfl ?_
  refine tr_ast (rk_12_14 h0) dX12_layComposed_219 (fun s7 => ?_)
  refine tr_aload_n (i := 0) dX12_layComposed_220 rfl ?_
  refine tr_dup dX12_layComposed_221 rfl ?_
  refine tr_getI 12 h0 fl_X12_155 (by decide +kernel) dX12_layComposed_222 ?_
  refine tr_iconst (v := 1) dX12_layComposed_225 (by decide +kernel) ?_
  refine tr_iadd dX12_layComposed_226 ?_
  refine tr_putI 12 h0 fl_X12_155 (by decide +kernel) dX12_layComposed_227 ?_
  refine ms_ltS (fun s8 => ?_)
  refine tr_iinc (k := 4) (v := (l5 + 1)) (lv' := [(0, .ref l0), (1, .int t0), (2, .int l2), (3, .long l3), (5, .int (l5 + 1))]) [1, 2, 3, 4, 0] dX12_layComposed_230 rfl rfl (by decide) rfl ?_
  refine tr_goto (tgt := 14) dX12_layComposed_233 (by decide) ?_
  exact hk14 s8 l0 t0 l2 l3 (l5 + 1) h0
set_option maxRecDepth 100000 in
theorem t_X12_layComposed_184 (G : MG) (hG : (g_l G).stackTraces = false) (d : Nat) (hd : 3 ≤ d)   (k14 : MsSt → Nat → Int32 → Int32 → Int64 → Int32 → Option (MsSt)) (hk14 : ∀ (s : MsSt) (x1 : Nat) (x2 : Int32) (x3 : Int32) (x4 : Int64) (x5 : Int32), ms_kd x1 = 13 → TrO G mX12_layComposed d 0 0 0 0 ms_wv 14 [(0, .ref x1), (1, .int x2), (2, .int x3), (3, .long x4), (5, .int x5)] [] s (k14 s x1 x2 x3 x4 x5)) (σ : MsSt) (l0 : Nat) (l1 : Int32) (l2 : Int32) (l5 : Int32) (l6 : Int32) (l7 : Int32) (t0 : Int64) (h0 : ms_kd l0 = 13) : TrO G mX12_layComposed d 0 0 0 0 ms_wv 184 [(0, .ref l0), (1, .int l1), (2, .int l2), (5, .int l5), (6, .int l6), (7, .int l7)] [.long t0] σ (f_X12_layComposed_184 k14 σ l0 l1 l2 l5 l6 l7 t0) := by
  show TrO G mX12_layComposed d 0 0 0 0 ms_wv 184 [(0, .ref l0), (1, .int l1), (2, .int l2), (5, .int l5), (6, .int l6), (7, .int l7)] [.long t0] σ (if l7 = 0 then f_X12_layComposed_198 k14 σ l0 l2 t0 l5 l6 l1 else f_X12_layComposed_198 k14 σ l0 l2 t0 l5 l6 (ms_i σ l0 15))
  refine tr_lstore_n (lv' := [(0, .ref l0), (1, .int l1), (2, .int l2), (3, .long t0), (5, .int l5), (6, .int l6), (7, .int l7)]) [1, 2, 3, 0, 4, 5, 6] dX12_layComposed_184 (by decide) rfl ?_
  refine tr_iload (i := 6) dX12_layComposed_185 rfl ?_
  refine tr_ifeq (o := none) (tgt := 197) dX12_layComposed_187 (by decide) ?_ ?_
  · refine tr_iload_n (i := 1) dX12_layComposed_197 rfl ?_
    refine tr_weak [0, 2, 3, 4, 5] (lv' := [(0, .ref l0), (2, .int l2), (3, .long t0), (5, .int l5), (6, .int l6)]) rfl ?_
    exact t_X12_layComposed_198 G hG d hd k14 hk14 σ l0 l2 t0 l5 l6 l1 h0
  · refine tr_aload_n (i := 0) dX12_layComposed_190 rfl ?_
    refine tr_getI 12 h0 fl_X12_155 (by decide +kernel) dX12_layComposed_191 ?_
    refine tr_goto (tgt := 198) dX12_layComposed_194 (by decide) ?_
    refine tr_weak [0, 2, 3, 4, 5] (lv' := [(0, .ref l0), (2, .int l2), (3, .long t0), (5, .int l5), (6, .int l6)]) rfl ?_
    exact t_X12_layComposed_198 G hG d hd k14 hk14 σ l0 l2 t0 l5 l6 (ms_i σ l0 15) h0
set_option maxRecDepth 100000 in
theorem t_X12_layComposed_159 (G : MG) (hG : (g_l G).stackTraces = false) (d : Nat) (hd : 3 ≤ d)   (k14 : MsSt → Nat → Int32 → Int32 → Int64 → Int32 → Option (MsSt)) (hk14 : ∀ (s : MsSt) (x1 : Nat) (x2 : Int32) (x3 : Int32) (x4 : Int64) (x5 : Int32), ms_kd x1 = 13 → TrO G mX12_layComposed d 0 0 0 0 ms_wv 14 [(0, .ref x1), (1, .int x2), (2, .int x3), (3, .long x4), (5, .int x5)] [] s (k14 s x1 x2 x3 x4 x5)) (σ : MsSt) (l0 : Nat) (l1 : Int32) (l3 : Int64) (l5 : Int32) (l6 : Int32) (l7 : Int32) (t0 : Int32) (h0 : ms_kd l0 = 13) : TrO G mX12_layComposed d 0 0 0 0 ms_wv 159 [(0, .ref l0), (1, .int l1), (3, .long l3), (5, .int l5), (6, .int l6), (7, .int l7)] [.int t0] σ (f_X12_layComposed_159 k14 σ l0 l1 l3 l5 l6 l7 t0) := by
  show TrO G mX12_layComposed d 0 0 0 0 ms_wv 159 [(0, .ref l0), (1, .int l1), (3, .long l3), (5, .int l5), (6, .int l6), (7, .int l7)] [.int t0] σ (if l7 = 0 then (f_X12_of σ l6 1).bind fun v4 => (ms_ald σ (ms_rf l0 0) v4).bind fun v5 => f_X12_layComposed_184 k14 σ l0 l1 t0 l5 l6 l7 (l3 ||| (((1 : Int64) <<< (v5.toInt64 &&& 63)))) else f_X12_layComposed_184 k14 σ l0 l1 t0 l5 l6 l7 0)
  refine tr_istore_n (lv' := [(0, .ref l0), (1, .int l1), (2, .int t0), (3, .long l3), (5, .int l5), (6, .int l6), (7, .int l7)]) [1, 2, 0, 3, 4, 5, 6] dX12_layComposed_159 (by decide) rfl ?_
  refine tr_iload (i := 6) dX12_layComposed_160 rfl ?_
  refine tr_ifeq (o := none) (tgt := 169) dX12_layComposed_162 (by decide) ?_ ?_
  · refine tr_lload_n (i := 3) dX12_layComposed_169 rfl ?_
    refine tr_lconst (v := 1) dX12_layComposed_170 (by decide +kernel) ?_
    refine tr_aload_n (i := 0) dX12_layComposed_171 rfl ?_
    refine tr_getR 12 h0 fl_X12_9 (by decide +kernel) dX12_layComposed_172 ?_
    refine tr_iload (i := 5) dX12_layComposed_175 rfl ?_
    refine tr_iconst (v := 1) dX12_layComposed_177 (by decide +kernel) ?_
    refine tr_c_i (ms_cS (rest := [.ref (ms_rf l0 0), .long 1, .long l3]) (al := [.int l6, .int 1]) (sp_X12_of G hG (d - 1) (by omega) σ l6 1) kl_X12_114 fs_X12_of dX12_layComposed_178 (show _ = some 2 by decide +kernel) (by omega) (Nat.le_of_ble_eq_true rfl) (by decide) (by decide)) (fun v4 => ?_)
    refine tr_ald (rk_12_0 h0) dX12_layComposed_181 (fun v5 => ?_)
    refine tr_lshl dX12_layComposed_182 ?_
    refine tr_lor dX12_layComposed_183 ?_
    refine tr_weak [0, 1, 2, 4, 5, 6] (lv' := [(0, .ref l0), (1, .int l1), (2, .int t0), (5, .int l5), (6, .int l6), (7, .int l7)]) rfl ?_
    exact t_X12_layComposed_184 G hG d hd k14 hk14 σ l0 l1 t0 l5 l6 l7 (l3 ||| (((1 : Int64) <<< (v5.toInt64 &&& 63)))) h0
  · refine tr_lconst (v := 0) dX12_layComposed_165 (by decide +kernel) ?_
    refine tr_goto (tgt := 184) dX12_layComposed_166 (by decide) ?_
    refine tr_weak [0, 1, 2, 4, 5, 6] (lv' := [(0, .ref l0), (1, .int l1), (2, .int t0), (5, .int l5), (6, .int l6), (7, .int l7)]) rfl ?_
    exact t_X12_layComposed_184 G hG d hd k14 hk14 σ l0 l1 t0 l5 l6 l7 0 h0
set_option maxRecDepth 100000 in
theorem t_X12_layComposed_152 (G : MG) (hG : (g_l G).stackTraces = false) (d : Nat) (hd : 3 ≤ d)   (k14 : MsSt → Nat → Int32 → Int32 → Int64 → Int32 → Option (MsSt)) (hk14 : ∀ (s : MsSt) (x1 : Nat) (x2 : Int32) (x3 : Int32) (x4 : Int64) (x5 : Int32), ms_kd x1 = 13 → TrO G mX12_layComposed d 0 0 0 0 ms_wv 14 [(0, .ref x1), (1, .int x2), (2, .int x3), (3, .long x4), (5, .int x5)] [] s (k14 s x1 x2 x3 x4 x5)) (σ : MsSt) (l0 : Nat) (l1 : Int32) (l2 : Int32) (l3 : Int64) (l5 : Int32) (l6 : Int32) (l7 : Int32) (h0 : ms_kd l0 = 13) : TrO G mX12_layComposed d 0 0 0 0 ms_wv 152 [(0, .ref l0), (1, .int l1), (2, .int l2), (3, .long l3), (5, .int l5), (6, .int l6), (7, .int l7)] [] σ (f_X12_layComposed_152 k14 σ l0 l1 l2 l3 l5 l6 l7) := by
  show TrO G mX12_layComposed d 0 0 0 0 ms_wv 152 [(0, .ref l0), (1, .int l1), (2, .int l2), (3, .long l3), (5, .int l5), (6, .int l6), (7, .int l7)] [] σ (f_X12_layComposed_159 k14 σ l0 l1 l3 l5 l6 l7 (l2 + 1))
  refine tr_iload_n (i := 2) dX12_layComposed_152 rfl ?_
  refine tr_iconst (v := 1) dX12_layComposed_153 (by decide +kernel) ?_
  refine tr_iadd dX12_layComposed_154 ?_
  refine tr_goto (tgt := 159) dX12_layComposed_155 (by decide) ?_
  refine tr_weak [0, 1, 3, 4, 5, 6] (lv' := [(0, .ref l0), (1, .int l1), (3, .long l3), (5, .int l5), (6, .int l6), (7, .int l7)]) rfl ?_
  exact t_X12_layComposed_159 G hG d hd k14 hk14 σ l0 l1 l3 l5 l6 l7 (l2 + 1) h0
set_option maxRecDepth 100000 in
theorem t_X12_layComposed_142 (G : MG) (hG : (g_l G).stackTraces = false) (d : Nat) (hd : 3 ≤ d)   (k14 : MsSt → Nat → Int32 → Int32 → Int64 → Int32 → Option (MsSt)) (hk14 : ∀ (s : MsSt) (x1 : Nat) (x2 : Int32) (x3 : Int32) (x4 : Int64) (x5 : Int32), ms_kd x1 = 13 → TrO G mX12_layComposed d 0 0 0 0 ms_wv 14 [(0, .ref x1), (1, .int x2), (2, .int x3), (3, .long x4), (5, .int x5)] [] s (k14 s x1 x2 x3 x4 x5)) (σ : MsSt) (l0 : Nat) (l1 : Int32) (l2 : Int32) (l3 : Int64) (l5 : Int32) (l6 : Int32) (l7 : Int32) (h0 : ms_kd l0 = 13) : TrO G mX12_layComposed d 0 0 0 0 ms_wv 142 [(0, .ref l0), (1, .int l1), (2, .int l2), (3, .long l3), (5, .int l5), (6, .int l6), (7, .int l7)] [] σ (f_X12_layComposed_142 k14 σ l0 l1 l2 l3 l5 l6 l7) := by
  show TrO G mX12_layComposed d 0 0 0 0 ms_wv 142 [(0, .ref l0), (1, .int l1), (2, .int l2), (3, .long l3), (5, .int l5), (6, .int l6), (7, .int l7)] [] σ (if l7 = 0 then if l2 = (-1) then f_X12_layComposed_152 k14 σ l0 l1 l2 l3 l5 l6 l7 else f_X12_layComposed_159 k14 σ l0 l1 l3 l5 l6 l7 l2 else f_X12_layComposed_152 k14 σ l0 l1 l2 l3 l5 l6 l7)
  refine tr_iload (i := 6) dX12_layComposed_142 rfl ?_
  refine tr_ifne (o := none) (tgt := 152) dX12_layComposed_144 (by decide) ?_ ?_
  · exact t_X12_layComposed_152 G hG d hd k14 hk14 σ l0 l1 l2 l3 l5 l6 l7 h0
  · refine tr_iload_n (i := 2) dX12_layComposed_147 rfl ?_
    refine tr_iconst (v := (-1)) dX12_layComposed_148 (by decide +kernel) ?_
    refine tr_icne (o := none) (tgt := 158) dX12_layComposed_149 (by decide) ?_ ?_
    · refine tr_iload_n (i := 2) dX12_layComposed_158 rfl ?_
      refine tr_weak [0, 1, 3, 4, 5, 6] (lv' := [(0, .ref l0), (1, .int l1), (3, .long l3), (5, .int l5), (6, .int l6), (7, .int l7)]) rfl ?_
      exact t_X12_layComposed_159 G hG d hd k14 hk14 σ l0 l1 l3 l5 l6 l7 l2 h0
    · exact t_X12_layComposed_152 G hG d hd k14 hk14 σ l0 l1 l2 l3 l5 l6 l7 h0
set_option maxRecDepth 100000 in
theorem t_X12_layComposed_109 (G : MG) (hG : (g_l G).stackTraces = false) (d : Nat) (hd : 3 ≤ d)   (k14 : MsSt → Nat → Int32 → Int32 → Int64 → Int32 → Option (MsSt)) (hk14 : ∀ (s : MsSt) (x1 : Nat) (x2 : Int32) (x3 : Int32) (x4 : Int64) (x5 : Int32), ms_kd x1 = 13 → TrO G mX12_layComposed d 0 0 0 0 ms_wv 14 [(0, .ref x1), (1, .int x2), (2, .int x3), (3, .long x4), (5, .int x5)] [] s (k14 s x1 x2 x3 x4 x5)) (σ : MsSt) (l0 : Nat) (l1 : Int32) (l2 : Int32) (l3 : Int64) (l5 : Int32) (l6 : Int32) (l7 : Int32) (t0 : Int32) (h0 : ms_kd l0 = 13) : TrO G mX12_layComposed d 0 0 0 0 ms_wv 109 [(0, .ref l0), (1, .int l1), (2, .int l2), (3, .long l3), (5, .int l5), (6, .int l6), (7, .int l7)] [.int t0] σ (f_X12_layComposed_109 k14 σ l0 l1 l2 l3 l5 l6 l7 t0) := by
  show TrO G mX12_layComposed d 0 0 0 0 ms_wv 109 [(0, .ref l0), (1, .int l1), (2, .int l2), (3, .long l3), (5, .int l5), (6, .int l6), (7, .int l7)] [.int t0] σ (if t0 = (-1) then f_X12_layComposed_142 k14 σ l0 l1 l2 l3 l5 l6 l7 else (f_X12_of σ t0 5).bind fun v9 => (ms_ald σ (ms_rf l0 0) v9).bind fun v10 => if v10 = 0 then (ms_ast σ (ms_rf l0 13) l1 t0).bind fun s11 => k14 s11 l0 l1 l2 l3 (l5 + 1) else f_X12_layComposed_142 k14 σ l0 l1 l2 l3 l5 l6 l7)
  refine tr_istore (lv' := [(0, .ref l0), (1, .int l1), (2, .int l2), (3, .long l3), (5, .int l5), (6, .int l6), (7, .int l7), (9, .int t0)]) [1, 2, 3, 4, 5, 6, 7, 0] dX12_layComposed_109 (by decide) rfl ?_
  refine tr_iload (i := 7) dX12_layComposed_111 rfl ?_
  refine tr_iconst (v := (-1)) dX12_layComposed_113 (by decide +kernel) ?_
  refine tr_iceq (o := none) (tgt := 142) dX12_layComposed_114 (by decide) ?_ ?_
  · refine tr_weak [0, 1, 2, 3, 4, 5, 6] (lv' := [(0, .ref l0), (1, .int l1), (2, .int l2), (3, .long l3), (5, .int l5), (6, .int l6), (7, .int l7)]) rfl ?_
    exact t_X12_layComposed_142 G hG d hd k14 hk14 σ l0 l1 l2 l3 l5 l6 l7 h0
  · refine tr_aload_n (i := 0) dX12_layComposed_117 rfl ?_
    refine tr_getR 12 h0 fl_X12_9 (by decide +kernel) dX12_layComposed_118 ?_
    refine tr_iload (i := 7) dX12_layComposed_121 rfl ?_
    refine tr_iconst (v := 5) dX12_layComposed_123 (by decide +kernel) ?_
    refine tr_c_i (ms_cS (rest := [.ref (ms_rf l0 0)]) (al := [.int t0, .int 5]) (sp_X12_of G hG (d - 1) (by omega) σ t0 5) kl_X12_114 fs_X12_of dX12_layComposed_124 (show _ = some 2 by decide +kernel) (by omega) (Nat.le_of_ble_eq_true rfl) (by decide) (by decide)) (fun v9 => ?_)
    refine tr_ald (rk_12_0 h0) dX12_layComposed_127 (fun v10 => ?_)
    refine tr_ifne (o := none) (tgt := 142) dX12_layComposed_128 (by decide) ?_ ?_
    · refine tr_weak [0, 1, 2, 3, 4, 5, 6] (lv' := [(0, .ref l0), (1, .int l1), (2, .int l2), (3, .long l3), (5, .int l5), (6, .int l6), (7, .int l7)]) rfl ?_
      exact t_X12_layComposed_142 G hG d hd k14 hk14 σ l0 l1 l2 l3 l5 l6 l7 h0
    · refine tr_aload_n (i := 0) dX12_layComposed_131 rfl ?_
      refine tr_getR 12 h0 fl_X12_34 (by decide +kernel) dX12_layComposed_132 ?_
      refine tr_iload_n (i := 1) dX12_layComposed_135 rfl ?_
      refine tr_iload (i := 7) dX12_layComposed_136 rfl ?_
      refine tr_ast (rk_12_13 h0) dX12_layComposed_138 (fun s11 => ?_)
      refine tr_goto (tgt := 230) dX12_layComposed_139 (by decide) ?_
      refine tr_iinc (k := 4) (v := (l5 + 1)) (lv' := [(0, .ref l0), (1, .int l1), (2, .int l2), (3, .long l3), (5, .int (l5 + 1))]) [1, 2, 3, 4, 0] dX12_layComposed_230 rfl rfl (by decide) rfl ?_
      refine tr_goto (tgt := 14) dX12_layComposed_233 (by decide) ?_
      exact hk14 s11 l0 l1 l2 l3 (l5 + 1) h0
set_option maxRecDepth 100000 in
theorem t_X12_layComposed_83 (G : MG) (hG : (g_l G).stackTraces = false) (d : Nat) (hd : 3 ≤ d)   (k14 : MsSt → Nat → Int32 → Int32 → Int64 → Int32 → Option (MsSt)) (hk14 : ∀ (s : MsSt) (x1 : Nat) (x2 : Int32) (x3 : Int32) (x4 : Int64) (x5 : Int32), ms_kd x1 = 13 → TrO G mX12_layComposed d 0 0 0 0 ms_wv 14 [(0, .ref x1), (1, .int x2), (2, .int x3), (3, .long x4), (5, .int x5)] [] s (k14 s x1 x2 x3 x4 x5)) (σ : MsSt) (l0 : Nat) (l1 : Int32) (l2 : Int32) (l3 : Int64) (l5 : Int32) (l6 : Int32) (l7 : Int32) (t0 : Int32) (h0 : ms_kd l0 = 13) : TrO G mX12_layComposed d 0 0 0 0 ms_wv 83 [(0, .ref l0), (1, .int l1), (2, .int l2), (3, .long l3), (5, .int l5), (6, .int l6), (7, .int l7)] [.int t0] σ (f_X12_layComposed_83 k14 σ l0 l1 l2 l3 l5 l6 l7 t0) := by
  show TrO G mX12_layComposed d 0 0 0 0 ms_wv 83 [(0, .ref l0), (1, .int l1), (2, .int l2), (3, .long l3), (5, .int l5), (6, .int l6), (7, .int l7)] [.int t0] σ (if t0 = 0 then f_X12_layComposed_109 k14 σ l0 l1 l2 l3 l5 l6 l7 (-1) else (ms_ald σ (ms_rf l0 13) l1).bind fun v12 => (f_X12_findPair σ (ms_rf l0 0) v12 l6).bind fun v13 => f_X12_layComposed_109 k14 σ l0 l1 l2 l3 l5 l6 l7 v13)
  refine tr_istore (lv' := [(0, .ref l0), (1, .int l1), (2, .int l2), (3, .long l3), (5, .int l5), (6, .int l6), (7, .int l7), (8, .int t0)]) [1, 2, 3, 4, 5, 6, 7, 0] dX12_layComposed_83 (by decide) rfl ?_
  refine tr_iload (i := 7) dX12_layComposed_85 rfl ?_
  refine tr_ifeq (o := none) (tgt := 108) dX12_layComposed_87 (by decide) ?_ ?_
  · refine tr_iconst (v := (-1)) dX12_layComposed_108 (by decide +kernel) ?_
    refine tr_weak [0, 1, 2, 3, 4, 5, 6] (lv' := [(0, .ref l0), (1, .int l1), (2, .int l2), (3, .long l3), (5, .int l5), (6, .int l6), (7, .int l7)]) rfl ?_
    exact t_X12_layComposed_109 G hG d hd k14 hk14 σ l0 l1 l2 l3 l5 l6 l7 (-1) h0
  · refine tr_aload_n (i := 0) dX12_layComposed_90 rfl ?_
    refine tr_getR 12 h0 fl_X12_9 (by decide +kernel) dX12_layComposed_91 ?_
    refine tr_aload_n (i := 0) dX12_layComposed_94 rfl ?_
    refine tr_getR 12 h0 fl_X12_34 (by decide +kernel) dX12_layComposed_95 ?_
    refine tr_iload_n (i := 1) dX12_layComposed_98 rfl ?_
    refine tr_ald (rk_12_13 h0) dX12_layComposed_99 (fun v12 => ?_)
    refine tr_iload (i := 5) dX12_layComposed_100 rfl ?_
    refine tr_c_i (ms_cS (rest := []) (al := [.ref (ms_rf l0 0), .int v12, .int l6]) (sp_X12_findPair G hG (d - 1) (by omega) σ (ms_rf l0 0) v12 l6 (rk_12_0 h0)) kl_X12_158 fs_X12_findPair dX12_layComposed_102 (show _ = some 3 by decide +kernel) (by omega) (Nat.le_of_ble_eq_true rfl) (by decide) (by decide)) (fun v13 => ?_)
    refine tr_goto (tgt := 109) dX12_layComposed_105 (by decide) ?_
    refine tr_weak [0, 1, 2, 3, 4, 5, 6] (lv' := [(0, .ref l0), (1, .int l1), (2, .int l2), (3, .long l3), (5, .int l5), (6, .int l6), (7, .int l7)]) rfl ?_
    exact t_X12_layComposed_109 G hG d hd k14 hk14 σ l0 l1 l2 l3 l5 l6 l7 v13 h0
set_option maxRecDepth 100000 in
theorem t_X12_layComposed_82 (G : MG) (hG : (g_l G).stackTraces = false) (d : Nat) (hd : 3 ≤ d)   (k14 : MsSt → Nat → Int32 → Int32 → Int64 → Int32 → Option (MsSt)) (hk14 : ∀ (s : MsSt) (x1 : Nat) (x2 : Int32) (x3 : Int32) (x4 : Int64) (x5 : Int32), ms_kd x1 = 13 → TrO G mX12_layComposed d 0 0 0 0 ms_wv 14 [(0, .ref x1), (1, .int x2), (2, .int x3), (3, .long x4), (5, .int x5)] [] s (k14 s x1 x2 x3 x4 x5)) (σ : MsSt) (l0 : Nat) (l1 : Int32) (l2 : Int32) (l3 : Int64) (l5 : Int32) (l6 : Int32) (l7 : Int32) (h0 : ms_kd l0 = 13) : TrO G mX12_layComposed d 0 0 0 0 ms_wv 82 [(0, .ref l0), (1, .int l1), (2, .int l2), (3, .long l3), (5, .int l5), (6, .int l6), (7, .int l7)] [] σ (f_X12_layComposed_82 k14 σ l0 l1 l2 l3 l5 l6 l7) := by
  show TrO G mX12_layComposed d 0 0 0 0 ms_wv 82 [(0, .ref l0), (1, .int l1), (2, .int l2), (3, .long l3), (5, .int l5), (6, .int l6), (7, .int l7)] [] σ (f_X12_layComposed_83 k14 σ l0 l1 l2 l3 l5 l6 l7 0)
  refine tr_iconst (v := 0) dX12_layComposed_82 (by decide +kernel) ?_
  exact t_X12_layComposed_83 G hG d hd k14 hk14 σ l0 l1 l2 l3 l5 l6 l7 0 h0
set_option maxRecDepth 100000 in
theorem t_X12_layComposed_46 (G : MG) (hG : (g_l G).stackTraces = false) (d : Nat) (hd : 3 ≤ d)   (k14 : MsSt → Nat → Int32 → Int32 → Int64 → Int32 → Option (MsSt)) (hk14 : ∀ (s : MsSt) (x1 : Nat) (x2 : Int32) (x3 : Int32) (x4 : Int64) (x5 : Int32), ms_kd x1 = 13 → TrO G mX12_layComposed d 0 0 0 0 ms_wv 14 [(0, .ref x1), (1, .int x2), (2, .int x3), (3, .long x4), (5, .int x5)] [] s (k14 s x1 x2 x3 x4 x5)) (σ : MsSt) (l0 : Nat) (l1 : Int32) (l2 : Int32) (l3 : Int64) (l5 : Int32) (l6 : Int32) (t0 : Int32) (h0 : ms_kd l0 = 13) : TrO G mX12_layComposed d 0 0 0 0 ms_wv 46 [(0, .ref l0), (1, .int l1), (2, .int l2), (3, .long l3), (5, .int l5), (6, .int l6)] [.int t0] σ (f_X12_layComposed_46 k14 σ l0 l1 l2 l3 l5 l6 t0) := by
  show TrO G mX12_layComposed d 0 0 0 0 ms_wv 46 [(0, .ref l0), (1, .int l1), (2, .int l2), (3, .long l3), (5, .int l5), (6, .int l6)] [.int t0] σ (if t0 = 0 then if l1 = (-1) then f_X12_layComposed_82 k14 σ l0 l1 l2 l3 l5 l6 t0 else (f_X12_of σ l6 1).bind fun v14 => (ms_ald σ (ms_rf l0 0) v14).bind fun v15 => if (lg_cmp (((l3 >>> (v15.toInt64 &&& 63))) &&& 1) 0) = 0 then f_X12_layComposed_83 k14 σ l0 l1 l2 l3 l5 l6 t0 1 else f_X12_layComposed_82 k14 σ l0 l1 l2 l3 l5 l6 t0 else f_X12_layComposed_82 k14 σ l0 l1 l2 l3 l5 l6 t0)
  refine tr_istore (lv' := [(0, .ref l0), (1, .int l1), (2, .int l2), (3, .long l3), (5, .int l5), (6, .int l6), (7, .int t0)]) [1, 2, 3, 4, 5, 6, 0] dX12_layComposed_46 (by decide) rfl ?_
  refine tr_iload (i := 6) dX12_layComposed_48 rfl ?_
  refine tr_ifne (o := none) (tgt := 82) dX12_layComposed_50 (by decide) ?_ ?_
  · exact t_X12_layComposed_82 G hG d hd k14 hk14 σ l0 l1 l2 l3 l5 l6 t0 h0
  · refine tr_iload_n (i := 1) dX12_layComposed_53 rfl ?_
    refine tr_iconst (v := (-1)) dX12_layComposed_54 (by decide +kernel) ?_
    refine tr_iceq (o := none) (tgt := 82) dX12_layComposed_55 (by decide) ?_ ?_
    · exact t_X12_layComposed_82 G hG d hd k14 hk14 σ l0 l1 l2 l3 l5 l6 t0 h0
    · refine tr_lload_n (i := 3) dX12_layComposed_58 rfl ?_
      refine tr_aload_n (i := 0) dX12_layComposed_59 rfl ?_
      refine tr_getR 12 h0 fl_X12_9 (by decide +kernel) dX12_layComposed_60 ?_
      refine tr_iload (i := 5) dX12_layComposed_63 rfl ?_
      refine tr_iconst (v := 1) dX12_layComposed_65 (by decide +kernel) ?_
      refine tr_c_i (ms_cS (rest := [.ref (ms_rf l0 0), .long l3]) (al := [.int l6, .int 1]) (sp_X12_of G hG (d - 1) (by omega) σ l6 1) kl_X12_114 fs_X12_of dX12_layComposed_66 (show _ = some 2 by decide +kernel) (by omega) (Nat.le_of_ble_eq_true rfl) (by decide) (by decide)) (fun v14 => ?_)
      refine tr_ald (rk_12_0 h0) dX12_layComposed_69 (fun v15 => ?_)
      refine tr_lshr dX12_layComposed_70 ?_
      refine tr_lconst (v := 1) dX12_layComposed_71 (by decide +kernel) ?_
      refine tr_land dX12_layComposed_72 ?_
      refine tr_lconst (v := 0) dX12_layComposed_73 (by decide +kernel) ?_
      refine tr_lcmp dX12_layComposed_74 ?_
      refine tr_ifne (o := none) (tgt := 82) dX12_layComposed_75 (by decide) ?_ ?_
      · exact t_X12_layComposed_82 G hG d hd k14 hk14 σ l0 l1 l2 l3 l5 l6 t0 h0
      · refine tr_iconst (v := 1) dX12_layComposed_78 (by decide +kernel) ?_
        refine tr_goto (tgt := 83) dX12_layComposed_79 (by decide) ?_
        exact t_X12_layComposed_83 G hG d hd k14 hk14 σ l0 l1 l2 l3 l5 l6 t0 1 h0
set_option maxRecDepth 100000 in
theorem t_X12_layComposed_14 (G : MG) (hG : (g_l G).stackTraces = false) (d : Nat) (hd : 3 ≤ d)    : ∀ (n : Nat) (σ : MsSt) (l0 : Nat) (l1 : Int32) (l2 : Int32) (l3 : Int64) (l5 : Int32) (h0 : ms_kd l0 = 13), TrO G mX12_layComposed d 0 0 0 0 ms_wv 14 [(0, .ref l0), (1, .int l1), (2, .int l2), (3, .long l3), (5, .int l5)] [] σ (f_X12_layComposed_14 n σ l0 l1 l2 l3 l5) := by
  intro n
  induction n with
  | zero => exact fun _ _ _ _ _ _ _ => tr_none
  | succ n ih =>
    intro σ l0 l1 l2 l3 l5 h0
    show TrO G mX12_layComposed d 0 0 0 0 ms_wv 14 [(0, .ref l0), (1, .int l1), (2, .int l2), (3, .long l3), (5, .int l5)] [] σ (if l5 < (ms_i σ l0 11) then (ms_ald σ (ms_rf l0 10) l5).bind fun v2 => (f_X12_isMark σ l0 v2).bind fun v3 => if v3 = 0 then f_X12_layComposed_46 (f_X12_layComposed_14 n) σ l0 l1 l2 l3 l5 v2 1 else f_X12_layComposed_46 (f_X12_layComposed_14 n) σ l0 l1 l2 l3 l5 v2 0 else some σ)
    refine tr_iload (i := 4) dX12_layComposed_14 rfl ?_
    refine tr_aload_n (i := 0) dX12_layComposed_16 rfl ?_
    refine tr_getI 12 h0 fl_X12_132 (by decide +kernel) dX12_layComposed_17 ?_
    refine tr_icge (o := none) (tgt := 236) dX12_layComposed_20 (by decide) ?_ ?_
    · exact tr_vret rfl rfl (by decide) (by decide) dX12_layComposed_236
    · refine tr_aload_n (i := 0) dX12_layComposed_23 rfl ?_
      refine tr_getR 12 h0 fl_X12_31 (by decide +kernel) dX12_layComposed_24 ?_
      refine tr_iload (i := 4) dX12_layComposed_27 rfl ?_
      refine tr_ald (rk_12_10 h0) dX12_layComposed_29 (fun v2 => ?_)
      refine tr_istore (lv' := [(0, .ref l0), (1, .int l1), (2, .int l2), (3, .long l3), (5, .int l5), (6, .int v2)]) [1, 2, 3, 4, 5, 0] dX12_layComposed_30 (by decide) rfl ?_
      refine tr_aload_n (i := 0) dX12_layComposed_32 rfl ?_
      refine tr_iload (i := 5) dX12_layComposed_33 rfl ?_
      refine tr_c_i (ms_cV (rest := []) (al := [.int v2]) 12 (sp_X12_isMark G hG (d - 1) (by omega) σ l0 v2 h0) h0 (by decide +kernel) kl_X12_135 fv_X12_isMark dX12_layComposed_35 (show _ = some 1 by decide +kernel) (by omega) (Nat.le_of_ble_eq_true rfl) (by decide) (by decide)) (fun v3 => ?_)
      refine tr_ifne (o := none) (tgt := 45) dX12_layComposed_38 (by decide) ?_ ?_
      · refine tr_iconst (v := 0) dX12_layComposed_45 (by decide +kernel) ?_
        exact t_X12_layComposed_46 G hG d hd (f_X12_layComposed_14 n) (fun s y0 y1 y2 y3 y4 g0 => ih s y0 y1 y2 y3 y4 g0) σ l0 l1 l2 l3 l5 v2 0 h0
      · refine tr_iconst (v := 1) dX12_layComposed_41 (by decide +kernel) ?_
        refine tr_goto (tgt := 46) dX12_layComposed_42 (by decide) ?_
        exact t_X12_layComposed_46 G hG d hd (f_X12_layComposed_14 n) (fun s y0 y1 y2 y3 y4 g0 => ih s y0 y1 y2 y3 y4 g0) σ l0 l1 l2 l3 l5 v2 1 h0
set_option maxRecDepth 100000 in
theorem sp_X12_layComposed (G : MG) (hG : (g_l G).stackTraces = false) (d : Nat) (hd : 3 ≤ d)   (σ : MsSt) (l0 : Nat) (h0 : ms_kd l0 = 13) : MsSpec G mX12_layComposed d 0 0 [.ref l0] σ ms_wv (f_X12_layComposed σ l0) := by
  refine ms_start (by decide +kernel) rfl rfl (Nat.le_of_ble_eq_true rfl) ?_
  show TrO G mX12_layComposed d 0 0 0 0 ms_wv 0 [(0, .ref l0)] [] σ (ms_nm (ms_si σ l0 15 0) fun s1 => f_X12_layComposed_14 ms_fuel s1 l0 (-1) (-1) 0 0)
  refine tr_aload_n (i := 0) dX12_layComposed_0 rfl ?_
  refine tr_iconst (v := 0) dX12_layComposed_1 (by decide +kernel) ?_
  refine tr_putI 12 h0 fl_X12_155 (by decide +kernel) dX12_layComposed_2 ?_
  refine ms_ltS (fun s1 => ?_)
  refine tr_iconst (v := (-1)) dX12_layComposed_5 (by decide +kernel) ?_
  refine tr_istore_n (lv' := [(0, .ref l0), (1, .int (-1))]) [1, 0] dX12_layComposed_6 (by decide) rfl ?_
  refine tr_iconst (v := (-1)) dX12_layComposed_7 (by decide +kernel) ?_
  refine tr_istore_n (lv' := [(0, .ref l0), (1, .int (-1)), (2, .int (-1))]) [1, 2, 0] dX12_layComposed_8 (by decide) rfl ?_
  refine tr_lconst (v := 0) dX12_layComposed_9 (by decide +kernel) ?_
  refine tr_lstore_n (lv' := [(0, .ref l0), (1, .int (-1)), (2, .int (-1)), (3, .long 0)]) [1, 2, 3, 0] dX12_layComposed_10 (by decide) rfl ?_
  refine tr_iconst (v := 0) dX12_layComposed_11 (by decide +kernel) ?_
  refine tr_istore (lv' := [(0, .ref l0), (1, .int (-1)), (2, .int (-1)), (3, .long 0), (5, .int 0)]) [1, 2, 3, 4, 0] dX12_layComposed_12 (by decide) rfl ?_
  exact t_X12_layComposed_14 G hG d hd ms_fuel s1 l0 (-1) (-1) 0 0 h0
theorem dX12_layForms_0 : decode cX12_layForms 0 = .ok (.aload_n 0, 1) := by decide +kernel
theorem dX12_layForms_1 : decode cX12_layForms 1 = .ok (.iload_n 1, 1) := by decide +kernel
theorem dX12_layForms_2 : decode cX12_layForms 2 = .ok (.invokevirtual 162, 3) := by decide +kernel
theorem dX12_layForms_5 : decode cX12_layForms 5 = .ok (.aload_n 0, 1) := by decide +kernel
theorem dX12_layForms_6 : decode cX12_layForms 6 = .ok (.invokevirtual 165, 3) := by decide +kernel
theorem dX12_layForms_9 : decode cX12_layForms 9 = .ok (.return_, 1) := by decide +kernel
set_option maxRecDepth 100000 in
theorem sp_X12_layForms (G : MG) (hG : (g_l G).stackTraces = false) (d : Nat) (hd : 6 ≤ d)   (σ : MsSt) (l0 : Nat) (l1 : Int32) (h0 : ms_kd l0 = 13) : MsSpec G mX12_layForms d 0 0 [.ref l0, .int l1] σ ms_wv (f_X12_layForms σ l0 l1) := by
  refine ms_start (by decide +kernel) rfl rfl (Nat.le_of_ble_eq_true rfl) ?_
  show TrO G mX12_layForms d 0 0 0 0 ms_wv 0 [(0, .ref l0), (1, .int l1)] [] σ ((f_X12_layDecomposed σ l0 l1).bind fun s1 => (f_X12_layComposed s1 l0).bind fun s2 => some s2)
  refine tr_aload_n (i := 0) dX12_layForms_0 rfl ?_
  refine tr_iload_n (i := 1) dX12_layForms_1 rfl ?_
  refine tr_c_wv (ms_cV (rest := []) (al := [.int l1]) 12 (sp_X12_layDecomposed G hG (d - 1) (by omega) σ l0 l1 h0) h0 (by decide +kernel) kl_X12_162 fv_X12_layDecomposed dX12_layForms_2 (show _ = some 1 by decide +kernel) (by omega) (Nat.le_of_ble_eq_true rfl) (by decide) (by decide)) (fun s1 => ?_)
  refine tr_aload_n (i := 0) dX12_layForms_5 rfl ?_
  refine tr_c_wv (ms_cV (rest := []) (al := []) 12 (sp_X12_layComposed G hG (d - 1) (by omega) s1 l0 h0) h0 (by decide +kernel) kl_X12_165 fv_X12_layComposed dX12_layForms_6 (show _ = some 0 by decide +kernel) (by omega) (Nat.le_of_ble_eq_true rfl) (by decide) (by decide)) (fun s2 => ?_)
  exact tr_vret rfl rfl (by decide) (by decide) dX12_layForms_9
theorem dX12_layClusters_0 : decode cX12_layClusters 0 = .ok (.aload_n 0, 1) := by decide +kernel
theorem dX12_layClusters_1 : decode cX12_layClusters 1 = .ok (.iload_n 1, 1) := by decide +kernel
theorem dX12_layClusters_2 : decode cX12_layClusters 2 = .ok (.invokevirtual 162, 3) := by decide +kernel
theorem dX12_layClusters_5 : decode cX12_layClusters 5 = .ok (.aload_n 0, 1) := by decide +kernel
theorem dX12_layClusters_6 : decode cX12_layClusters 6 = .ok (.iconst 0, 1) := by decide +kernel
theorem dX12_layClusters_7 : decode cX12_layClusters 7 = .ok (.putfield 168, 3) := by decide +kernel
theorem dX12_layClusters_10 : decode cX12_layClusters 10 = .ok (.iconst 0, 1) := by decide +kernel
theorem dX12_layClusters_11 : decode cX12_layClusters 11 = .ok (.istore_n 2, 1) := by decide +kernel
theorem dX12_layClusters_12 : decode cX12_layClusters 12 = .ok (.iload_n 2, 1) := by decide +kernel
theorem dX12_layClusters_13 : decode cX12_layClusters 13 = .ok (.aload_n 0, 1) := by decide +kernel
theorem dX12_layClusters_14 : decode cX12_layClusters 14 = .ok (.getfield 132, 3) := by decide +kernel
theorem dX12_layClusters_17 : decode cX12_layClusters 17 = .ok (.if_icmp .ge 46, 3) := by decide +kernel
theorem dX12_layClusters_20 : decode cX12_layClusters 20 = .ok (.iload_n 2, 1) := by decide +kernel
theorem dX12_layClusters_21 : decode cX12_layClusters 21 = .ok (.ifCond .eq 16, 3) := by decide +kernel
theorem dX12_layClusters_24 : decode cX12_layClusters 24 = .ok (.aload_n 0, 1) := by decide +kernel
theorem dX12_layClusters_25 : decode cX12_layClusters 25 = .ok (.aload_n 0, 1) := by decide +kernel
theorem dX12_layClusters_26 : decode cX12_layClusters 26 = .ok (.getfield 31, 3) := by decide +kernel
theorem dX12_layClusters_29 : decode cX12_layClusters 29 = .ok (.iload_n 2, 1) := by decide +kernel
theorem dX12_layClusters_30 : decode cX12_layClusters 30 = .ok (.iaload, 1) := by decide +kernel
theorem dX12_layClusters_31 : decode cX12_layClusters 31 = .ok (.invokevirtual 135, 3) := by decide +kernel
theorem dX12_layClusters_34 : decode cX12_layClusters 34 = .ok (.ifCond .ne 23, 3) := by decide +kernel
theorem dX12_layClusters_37 : decode cX12_layClusters 37 = .ok (.aload_n 0, 1) := by decide +kernel
theorem dX12_layClusters_38 : decode cX12_layClusters 38 = .ok (.getfield 40, 3) := by decide +kernel
theorem dX12_layClusters_41 : decode cX12_layClusters 41 = .ok (.aload_n 0, 1) := by decide +kernel
theorem dX12_layClusters_42 : decode cX12_layClusters 42 = .ok (.getfield 168, 3) := by decide +kernel
theorem dX12_layClusters_45 : decode cX12_layClusters 45 = .ok (.iload_n 2, 1) := by decide +kernel
theorem dX12_layClusters_46 : decode cX12_layClusters 46 = .ok (.iastore, 1) := by decide +kernel
theorem dX12_layClusters_47 : decode cX12_layClusters 47 = .ok (.aload_n 0, 1) := by decide +kernel
theorem dX12_layClusters_48 : decode cX12_layClusters 48 = .ok (.dup, 1) := by decide +kernel
theorem dX12_layClusters_49 : decode cX12_layClusters 49 = .ok (.getfield 168, 3) := by decide +kernel
theorem dX12_layClusters_52 : decode cX12_layClusters 52 = .ok (.iconst 1, 1) := by decide +kernel
theorem dX12_layClusters_53 : decode cX12_layClusters 53 = .ok (.iadd, 1) := by decide +kernel
theorem dX12_layClusters_54 : decode cX12_layClusters 54 = .ok (.putfield 168, 3) := by decide +kernel
theorem dX12_layClusters_57 : decode cX12_layClusters 57 = .ok (.iinc 2 1, 3) := by decide +kernel
theorem dX12_layClusters_60 : decode cX12_layClusters 60 = .ok (.goto (-48), 3) := by decide +kernel
theorem dX12_layClusters_63 : decode cX12_layClusters 63 = .ok (.aload_n 0, 1) := by decide +kernel
theorem dX12_layClusters_64 : decode cX12_layClusters 64 = .ok (.getfield 40, 3) := by decide +kernel
theorem dX12_layClusters_67 : decode cX12_layClusters 67 = .ok (.aload_n 0, 1) := by decide +kernel
theorem dX12_layClusters_68 : decode cX12_layClusters 68 = .ok (.getfield 168, 3) := by decide +kernel
theorem dX12_layClusters_71 : decode cX12_layClusters 71 = .ok (.aload_n 0, 1) := by decide +kernel
theorem dX12_layClusters_72 : decode cX12_layClusters 72 = .ok (.getfield 132, 3) := by decide +kernel
theorem dX12_layClusters_75 : decode cX12_layClusters 75 = .ok (.iastore, 1) := by decide +kernel
theorem dX12_layClusters_76 : decode cX12_layClusters 76 = .ok (.return_, 1) := by decide +kernel
set_option maxRecDepth 100000 in
theorem t_X12_layClusters_37 (G : MG) (hG : (g_l G).stackTraces = false) (d : Nat) (hd : 6 ≤ d)   (k12 : MsSt → Nat → Int32 → Option (MsSt)) (hk12 : ∀ (s : MsSt) (x1 : Nat) (x2 : Int32), ms_kd x1 = 13 → TrO G mX12_layClusters d 0 0 0 0 ms_wv 12 [(0, .ref x1), (2, .int x2)] [] s (k12 s x1 x2)) (σ : MsSt) (l0 : Nat) (l2 : Int32) (h0 : ms_kd l0 = 13) : TrO G mX12_layClusters d 0 0 0 0 ms_wv 37 [(0, .ref l0), (2, .int l2)] [] σ (f_X12_layClusters_37 k12 σ l0 l2) := by
  show TrO G mX12_layClusters d 0 0 0 0 ms_wv 37 [(0, .ref l0), (2, .int l2)] [] σ ((ms_ast σ (ms_rf l0 16) (ms_i σ l0 17) l2).bind fun s4 => ms_nm (ms_si s4 l0 17 ((ms_i s4 l0 17) + 1)) fun s5 => k12 s5 l0 (l2 + 1))
  refine tr_aload_n (i := 0) dX12_layClusters_37 rfl ?_
  refine tr_getR 12 h0 fl_X12_40 (by decide +kernel) dX12_layClusters_38 ?_
  refine tr_aload_n (i := 0) dX12_layClusters_41 rfl ?_
  refine tr_getI 12 h0 fl_X12_168 (by decide +kernel) dX12_layClusters_42 ?_
  refine tr_iload_n (i := 1) dX12_layClusters_45 rfl ?_
  refine tr_ast (rk_12_16 h0) dX12_layClusters_46 (fun s4 => ?_)
  refine tr_aload_n (i := 0) dX12_layClusters_47 rfl ?_
  refine tr_dup dX12_layClusters_48 rfl ?_
  refine tr_getI 12 h0 fl_X12_168 (by decide +kernel) dX12_layClusters_49 ?_
  refine tr_iconst (v := 1) dX12_layClusters_52 (by decide +kernel) ?_
  refine tr_iadd dX12_layClusters_53 ?_
  refine tr_putI 12 h0 fl_X12_168 (by decide +kernel) dX12_layClusters_54 ?_
  refine ms_ltS (fun s5 => ?_)
  refine tr_iinc (k := 1) (v := (l2 + 1)) (lv' := [(0, .ref l0), (2, .int (l2 + 1))]) [1, 0] dX12_layClusters_57 rfl rfl (by decide) rfl ?_
  refine tr_goto (tgt := 12) dX12_layClusters_60 (by decide) ?_
  exact hk12 s5 l0 (l2 + 1) h0
set_option maxRecDepth 100000 in
theorem t_X12_layClusters_12 (G : MG) (hG : (g_l G).stackTraces = false) (d : Nat) (hd : 6 ≤ d)    : ∀ (n : Nat) (σ : MsSt) (l0 : Nat) (l2 : Int32) (h0 : ms_kd l0 = 13), TrO G mX12_layClusters d 0 0 0 0 ms_wv 12 [(0, .ref l0), (2, .int l2)] [] σ (f_X12_layClusters_12 n σ l0 l2) := by
  intro n
  induction n with
  | zero => exact fun _ _ _ _ => tr_none
  | succ n ih =>
    intro σ l0 l2 h0
    show TrO G mX12_layClusters d 0 0 0 0 ms_wv 12 [(0, .ref l0), (2, .int l2)] [] σ (if l2 < (ms_i σ l0 11) then if l2 = 0 then f_X12_layClusters_37 (f_X12_layClusters_12 n) σ l0 l2 else (ms_ald σ (ms_rf l0 10) l2).bind fun v6 => (f_X12_isMark σ l0 v6).bind fun v7 => if v7 = 0 then f_X12_layClusters_37 (f_X12_layClusters_12 n) σ l0 l2 else (f_X12_layClusters_12 n) σ l0 (l2 + 1) else (ms_ast σ (ms_rf l0 16) (ms_i σ l0 17) (ms_i σ l0 11)).bind fun s3 => some s3)
    refine tr_iload_n (i := 1) dX12_layClusters_12 rfl ?_
    refine tr_aload_n (i := 0) dX12_layClusters_13 rfl ?_
    refine tr_getI 12 h0 fl_X12_132 (by decide +kernel) dX12_layClusters_14 ?_
    refine tr_icge (o := none) (tgt := 63) dX12_layClusters_17 (by decide) ?_ ?_
    · refine tr_aload_n (i := 0) dX12_layClusters_63 rfl ?_
      refine tr_getR 12 h0 fl_X12_40 (by decide +kernel) dX12_layClusters_64 ?_
      refine tr_aload_n (i := 0) dX12_layClusters_67 rfl ?_
      refine tr_getI 12 h0 fl_X12_168 (by decide +kernel) dX12_layClusters_68 ?_
      refine tr_aload_n (i := 0) dX12_layClusters_71 rfl ?_
      refine tr_getI 12 h0 fl_X12_132 (by decide +kernel) dX12_layClusters_72 ?_
      refine tr_ast (rk_12_16 h0) dX12_layClusters_75 (fun s3 => ?_)
      exact tr_vret rfl rfl (by decide) (by decide) dX12_layClusters_76
    · refine tr_iload_n (i := 1) dX12_layClusters_20 rfl ?_
      refine tr_ifeq (o := none) (tgt := 37) dX12_layClusters_21 (by decide) ?_ ?_
      · exact t_X12_layClusters_37 G hG d hd (f_X12_layClusters_12 n) (fun s y0 y1 g0 => ih s y0 y1 g0) σ l0 l2 h0
      · refine tr_aload_n (i := 0) dX12_layClusters_24 rfl ?_
        refine tr_aload_n (i := 0) dX12_layClusters_25 rfl ?_
        refine tr_getR 12 h0 fl_X12_31 (by decide +kernel) dX12_layClusters_26 ?_
        refine tr_iload_n (i := 1) dX12_layClusters_29 rfl ?_
        refine tr_ald (rk_12_10 h0) dX12_layClusters_30 (fun v6 => ?_)
        refine tr_c_i (ms_cV (rest := []) (al := [.int v6]) 12 (sp_X12_isMark G hG (d - 1) (by omega) σ l0 v6 h0) h0 (by decide +kernel) kl_X12_135 fv_X12_isMark dX12_layClusters_31 (show _ = some 1 by decide +kernel) (by omega) (Nat.le_of_ble_eq_true rfl) (by decide) (by decide)) (fun v7 => ?_)
        refine tr_ifne (o := none) (tgt := 57) dX12_layClusters_34 (by decide) ?_ ?_
        · refine tr_iinc (k := 1) (v := (l2 + 1)) (lv' := [(0, .ref l0), (2, .int (l2 + 1))]) [1, 0] dX12_layClusters_57 rfl rfl (by decide) rfl ?_
          refine tr_goto (tgt := 12) dX12_layClusters_60 (by decide) ?_
          exact (fun s y0 y1 g0 => ih s y0 y1 g0) σ l0 (l2 + 1) h0
        · exact t_X12_layClusters_37 G hG d hd (f_X12_layClusters_12 n) (fun s y0 y1 g0 => ih s y0 y1 g0) σ l0 l2 h0
set_option maxRecDepth 100000 in
theorem sp_X12_layClusters (G : MG) (hG : (g_l G).stackTraces = false) (d : Nat) (hd : 6 ≤ d)   (σ : MsSt) (l0 : Nat) (l1 : Int32) (h0 : ms_kd l0 = 13) : MsSpec G mX12_layClusters d 0 0 [.ref l0, .int l1] σ ms_wv (f_X12_layClusters σ l0 l1) := by
  refine ms_start (by decide +kernel) rfl rfl (Nat.le_of_ble_eq_true rfl) ?_
  show TrO G mX12_layClusters d 0 0 0 0 ms_wv 0 [(0, .ref l0), (1, .int l1)] [] σ ((f_X12_layDecomposed σ l0 l1).bind fun s1 => ms_nm (ms_si s1 l0 17 0) fun s2 => f_X12_layClusters_12 ms_fuel s2 l0 0)
  refine tr_aload_n (i := 0) dX12_layClusters_0 rfl ?_
  refine tr_iload_n (i := 1) dX12_layClusters_1 rfl ?_
  refine tr_c_wv (ms_cV (rest := []) (al := [.int l1]) 12 (sp_X12_layDecomposed G hG (d - 1) (by omega) σ l0 l1 h0) h0 (by decide +kernel) kl_X12_162 fv_X12_layDecomposed dX12_layClusters_2 (show _ = some 1 by decide +kernel) (by omega) (Nat.le_of_ble_eq_true rfl) (by decide) (by decide)) (fun s1 => ?_)
  refine tr_aload_n (i := 0) dX12_layClusters_5 rfl ?_
  refine tr_iconst (v := 0) dX12_layClusters_6 (by decide +kernel) ?_
  refine tr_putI 12 h0 fl_X12_168 (by decide +kernel) dX12_layClusters_7 ?_
  refine ms_ltS (fun s2 => ?_)
  refine tr_iconst (v := 0) dX12_layClusters_10 (by decide +kernel) ?_
  refine tr_istore_n (lv' := [(0, .ref l0), (2, .int 0)]) [1, 0] dX12_layClusters_11 (by decide) rfl ?_
  exact t_X12_layClusters_12 G hG d hd ms_fuel s2 l0 0 h0
theorem dX12_baseOf_0 : decode cX12_baseOf 0 = .ok (.aload_n 0, 1) := by decide +kernel
theorem dX12_baseOf_1 : decode cX12_baseOf 1 = .ok (.getfield 31, 3) := by decide +kernel
theorem dX12_baseOf_4 : decode cX12_baseOf 4 = .ok (.aload_n 0, 1) := by decide +kernel
theorem dX12_baseOf_5 : decode cX12_baseOf 5 = .ok (.getfield 40, 3) := by decide +kernel
theorem dX12_baseOf_8 : decode cX12_baseOf 8 = .ok (.iload_n 1, 1) := by decide +kernel
theorem dX12_baseOf_9 : decode cX12_baseOf 9 = .ok (.iaload, 1) := by decide +kernel
theorem dX12_baseOf_10 : decode cX12_baseOf 10 = .ok (.iaload, 1) := by decide +kernel
theorem dX12_baseOf_11 : decode cX12_baseOf 11 = .ok (.istore_n 2, 1) := by decide +kernel
theorem dX12_baseOf_12 : decode cX12_baseOf 12 = .ok (.aload_n 0, 1) := by decide +kernel
theorem dX12_baseOf_13 : decode cX12_baseOf 13 = .ok (.iload_n 2, 1) := by decide +kernel
theorem dX12_baseOf_14 : decode cX12_baseOf 14 = .ok (.invokevirtual 135, 3) := by decide +kernel
theorem dX12_baseOf_17 : decode cX12_baseOf 17 = .ok (.ifCond .eq 7, 3) := by decide +kernel
theorem dX12_baseOf_20 : decode cX12_baseOf 20 = .ok (.iconst (-1), 1) := by decide +kernel
theorem dX12_baseOf_21 : decode cX12_baseOf 21 = .ok (.goto 4, 3) := by decide +kernel
theorem dX12_baseOf_24 : decode cX12_baseOf 24 = .ok (.iload_n 2, 1) := by decide +kernel
theorem dX12_baseOf_25 : decode cX12_baseOf 25 = .ok (.ireturn, 1) := by decide +kernel
set_option maxRecDepth 100000 in
theorem sp_X12_baseOf (G : MG) (hG : (g_l G).stackTraces = false) (d : Nat) (hd : 3 ≤ d)   (σ : MsSt) (l0 : Nat) (l1 : Int32) (h0 : ms_kd l0 = 13) : MsSpec G mX12_baseOf d 0 0 [.ref l0, .int l1] σ (ms_ki σ) (f_X12_baseOf σ l0 l1) := by
  refine ms_start (by decide +kernel) rfl rfl (Nat.le_of_ble_eq_true rfl) ?_
  show TrO G mX12_baseOf d 0 0 0 0 (ms_ki σ) 0 [(0, .ref l0), (1, .int l1)] [] σ ((ms_ald σ (ms_rf l0 16) l1).bind fun v1 => (ms_ald σ (ms_rf l0 10) v1).bind fun v2 => (f_X12_isMark σ l0 v2).bind fun v3 => if v3 = 0 then some v2 else some (-1))
  refine tr_aload_n (i := 0) dX12_baseOf_0 rfl ?_
  refine tr_getR 12 h0 fl_X12_31 (by decide +kernel) dX12_baseOf_1 ?_
  refine tr_aload_n (i := 0) dX12_baseOf_4 rfl ?_
  refine tr_getR 12 h0 fl_X12_40 (by decide +kernel) dX12_baseOf_5 ?_
  refine tr_iload_n (i := 1) dX12_baseOf_8 rfl ?_
  refine tr_ald (rk_12_16 h0) dX12_baseOf_9 (fun v1 => ?_)
  refine tr_ald (rk_12_10 h0) dX12_baseOf_10 (fun v2 => ?_)
  refine tr_istore_n (lv' := [(0, .ref l0), (2, .int v2)]) [1, 0] dX12_baseOf_11 (by decide) rfl ?_
  refine tr_aload_n (i := 0) dX12_baseOf_12 rfl ?_
  refine tr_iload_n (i := 1) dX12_baseOf_13 rfl ?_
  refine tr_c_i (ms_cV (rest := []) (al := [.int v2]) 12 (sp_X12_isMark G hG (d - 1) (by omega) σ l0 v2 h0) h0 (by decide +kernel) kl_X12_135 fv_X12_isMark dX12_baseOf_14 (show _ = some 1 by decide +kernel) (by omega) (Nat.le_of_ble_eq_true rfl) (by decide) (by decide)) (fun v3 => ?_)
  refine tr_ifeq (o := none) (tgt := 24) dX12_baseOf_17 (by decide) ?_ ?_
  · refine tr_iload_n (i := 1) dX12_baseOf_24 rfl ?_
    exact tr_iret rfl rfl (by decide) (by decide) dX12_baseOf_25
  · refine tr_iconst (v := (-1)) dX12_baseOf_20 (by decide +kernel) ?_
    refine tr_goto (tgt := 25) dX12_baseOf_21 (by decide) ?_
    exact tr_iret rfl rfl (by decide) (by decide) dX12_baseOf_25
theorem dX12_firstMark_0 : decode cX12_firstMark 0 = .ok (.aload_n 0, 1) := by decide +kernel
theorem dX12_firstMark_1 : decode cX12_firstMark 1 = .ok (.getfield 40, 3) := by decide +kernel
theorem dX12_firstMark_4 : decode cX12_firstMark 4 = .ok (.iload_n 1, 1) := by decide +kernel
theorem dX12_firstMark_5 : decode cX12_firstMark 5 = .ok (.iaload, 1) := by decide +kernel
theorem dX12_firstMark_6 : decode cX12_firstMark 6 = .ok (.aload_n 0, 1) := by decide +kernel
theorem dX12_firstMark_7 : decode cX12_firstMark 7 = .ok (.iload_n 1, 1) := by decide +kernel
theorem dX12_firstMark_8 : decode cX12_firstMark 8 = .ok (.invokevirtual 171, 3) := by decide +kernel
theorem dX12_firstMark_11 : decode cX12_firstMark 11 = .ok (.iconst (-1), 1) := by decide +kernel
theorem dX12_firstMark_12 : decode cX12_firstMark 12 = .ok (.if_icmp .ne 7, 3) := by decide +kernel
theorem dX12_firstMark_15 : decode cX12_firstMark 15 = .ok (.iconst 0, 1) := by decide +kernel
theorem dX12_firstMark_16 : decode cX12_firstMark 16 = .ok (.goto 4, 3) := by decide +kernel
theorem dX12_firstMark_19 : decode cX12_firstMark 19 = .ok (.iconst 1, 1) := by decide +kernel
theorem dX12_firstMark_20 : decode cX12_firstMark 20 = .ok (.iadd, 1) := by decide +kernel
theorem dX12_firstMark_21 : decode cX12_firstMark 21 = .ok (.ireturn, 1) := by decide +kernel
set_option maxRecDepth 100000 in
theorem sp_X12_firstMark (G : MG) (hG : (g_l G).stackTraces = false) (d : Nat) (hd : 4 ≤ d)   (σ : MsSt) (l0 : Nat) (l1 : Int32) (h0 : ms_kd l0 = 13) : MsSpec G mX12_firstMark d 0 0 [.ref l0, .int l1] σ (ms_ki σ) (f_X12_firstMark σ l0 l1) := by
  refine ms_start (by decide +kernel) rfl rfl (Nat.le_of_ble_eq_true rfl) ?_
  show TrO G mX12_firstMark d 0 0 0 0 (ms_ki σ) 0 [(0, .ref l0), (1, .int l1)] [] σ ((ms_ald σ (ms_rf l0 16) l1).bind fun v1 => (f_X12_baseOf σ l0 l1).bind fun v2 => if v2 = (-1) then some (v1 + 0) else some (v1 + 1))
  refine tr_aload_n (i := 0) dX12_firstMark_0 rfl ?_
  refine tr_getR 12 h0 fl_X12_40 (by decide +kernel) dX12_firstMark_1 ?_
  refine tr_iload_n (i := 1) dX12_firstMark_4 rfl ?_
  refine tr_ald (rk_12_16 h0) dX12_firstMark_5 (fun v1 => ?_)
  refine tr_aload_n (i := 0) dX12_firstMark_6 rfl ?_
  refine tr_iload_n (i := 1) dX12_firstMark_7 rfl ?_
  refine tr_c_i (ms_cV (rest := [.int v1]) (al := [.int l1]) 12 (sp_X12_baseOf G hG (d - 1) (by omega) σ l0 l1 h0) h0 (by decide +kernel) kl_X12_171 fv_X12_baseOf dX12_firstMark_8 (show _ = some 1 by decide +kernel) (by omega) (Nat.le_of_ble_eq_true rfl) (by decide) (by decide)) (fun v2 => ?_)
  refine tr_iconst (v := (-1)) dX12_firstMark_11 (by decide +kernel) ?_
  refine tr_icne (o := none) (tgt := 19) dX12_firstMark_12 (by decide) ?_ ?_
  · refine tr_iconst (v := 1) dX12_firstMark_19 (by decide +kernel) ?_
    refine tr_iadd dX12_firstMark_20 ?_
    exact tr_iret rfl rfl (by decide) (by decide) dX12_firstMark_21
  · refine tr_iconst (v := 0) dX12_firstMark_15 (by decide +kernel) ?_
    refine tr_goto (tgt := 20) dX12_firstMark_16 (by decide) ?_
    refine tr_iadd dX12_firstMark_20 ?_
    exact tr_iret rfl rfl (by decide) (by decide) dX12_firstMark_21
theorem dX12_marksOf_0 : decode cX12_marksOf 0 = .ok (.aload_n 0, 1) := by decide +kernel
theorem dX12_marksOf_1 : decode cX12_marksOf 1 = .ok (.getfield 40, 3) := by decide +kernel
theorem dX12_marksOf_4 : decode cX12_marksOf 4 = .ok (.iload_n 1, 1) := by decide +kernel
theorem dX12_marksOf_5 : decode cX12_marksOf 5 = .ok (.iconst 1, 1) := by decide +kernel
theorem dX12_marksOf_6 : decode cX12_marksOf 6 = .ok (.iadd, 1) := by decide +kernel
theorem dX12_marksOf_7 : decode cX12_marksOf 7 = .ok (.iaload, 1) := by decide +kernel
theorem dX12_marksOf_8 : decode cX12_marksOf 8 = .ok (.aload_n 0, 1) := by decide +kernel
theorem dX12_marksOf_9 : decode cX12_marksOf 9 = .ok (.iload_n 1, 1) := by decide +kernel
theorem dX12_marksOf_10 : decode cX12_marksOf 10 = .ok (.invokevirtual 174, 3) := by decide +kernel
theorem dX12_marksOf_13 : decode cX12_marksOf 13 = .ok (.isub, 1) := by decide +kernel
theorem dX12_marksOf_14 : decode cX12_marksOf 14 = .ok (.ireturn, 1) := by decide +kernel
set_option maxRecDepth 100000 in
theorem sp_X12_marksOf (G : MG) (hG : (g_l G).stackTraces = false) (d : Nat) (hd : 5 ≤ d)   (σ : MsSt) (l0 : Nat) (l1 : Int32) (h0 : ms_kd l0 = 13) : MsSpec G mX12_marksOf d 0 0 [.ref l0, .int l1] σ (ms_ki σ) (f_X12_marksOf σ l0 l1) := by
  refine ms_start (by decide +kernel) rfl rfl (Nat.le_of_ble_eq_true rfl) ?_
  show TrO G mX12_marksOf d 0 0 0 0 (ms_ki σ) 0 [(0, .ref l0), (1, .int l1)] [] σ ((ms_ald σ (ms_rf l0 16) (l1 + 1)).bind fun v1 => (f_X12_firstMark σ l0 l1).bind fun v2 => some (v1 - v2))
  refine tr_aload_n (i := 0) dX12_marksOf_0 rfl ?_
  refine tr_getR 12 h0 fl_X12_40 (by decide +kernel) dX12_marksOf_1 ?_
  refine tr_iload_n (i := 1) dX12_marksOf_4 rfl ?_
  refine tr_iconst (v := 1) dX12_marksOf_5 (by decide +kernel) ?_
  refine tr_iadd dX12_marksOf_6 ?_
  refine tr_ald (rk_12_16 h0) dX12_marksOf_7 (fun v1 => ?_)
  refine tr_aload_n (i := 0) dX12_marksOf_8 rfl ?_
  refine tr_iload_n (i := 1) dX12_marksOf_9 rfl ?_
  refine tr_c_i (ms_cV (rest := [.int v1]) (al := [.int l1]) 12 (sp_X12_firstMark G hG (d - 1) (by omega) σ l0 l1 h0) h0 (by decide +kernel) kl_X12_174 fv_X12_firstMark dX12_marksOf_10 (show _ = some 1 by decide +kernel) (by omega) (Nat.le_of_ble_eq_true rfl) (by decide) (by decide)) (fun v2 => ?_)
  refine tr_isub dX12_marksOf_13 ?_
  exact tr_iret rfl rfl (by decide) (by decide) dX12_marksOf_14
theorem dX12_ofBase_0 : decode cX12_ofBase 0 = .ok (.aload_n 0, 1) := by decide +kernel
theorem dX12_ofBase_1 : decode cX12_ofBase 1 = .ok (.iload_n 1, 1) := by decide +kernel
theorem dX12_ofBase_2 : decode cX12_ofBase 2 = .ok (.invokevirtual 171, 3) := by decide +kernel
theorem dX12_ofBase_5 : decode cX12_ofBase 5 = .ok (.istore_n 3, 1) := by decide +kernel
theorem dX12_ofBase_6 : decode cX12_ofBase 6 = .ok (.iload_n 3, 1) := by decide +kernel
theorem dX12_ofBase_7 : decode cX12_ofBase 7 = .ok (.iconst (-1), 1) := by decide +kernel
theorem dX12_ofBase_8 : decode cX12_ofBase 8 = .ok (.if_icmp .ne 7, 3) := by decide +kernel
theorem dX12_ofBase_11 : decode cX12_ofBase 11 = .ok (.iconst 0, 1) := by decide +kernel
theorem dX12_ofBase_12 : decode cX12_ofBase 12 = .ok (.goto 13, 3) := by decide +kernel
theorem dX12_ofBase_15 : decode cX12_ofBase 15 = .ok (.aload_n 0, 1) := by decide +kernel
theorem dX12_ofBase_16 : decode cX12_ofBase 16 = .ok (.getfield 9, 3) := by decide +kernel
theorem dX12_ofBase_19 : decode cX12_ofBase 19 = .ok (.iload_n 3, 1) := by decide +kernel
theorem dX12_ofBase_20 : decode cX12_ofBase 20 = .ok (.iload_n 2, 1) := by decide +kernel
theorem dX12_ofBase_21 : decode cX12_ofBase 21 = .ok (.invokestatic 114, 3) := by decide +kernel
theorem dX12_ofBase_24 : decode cX12_ofBase 24 = .ok (.iaload, 1) := by decide +kernel
theorem dX12_ofBase_25 : decode cX12_ofBase 25 = .ok (.ireturn, 1) := by decide +kernel
set_option maxRecDepth 100000 in
theorem sp_X12_ofBase (G : MG) (hG : (g_l G).stackTraces = false) (d : Nat) (hd : 4 ≤ d)   (σ : MsSt) (l0 : Nat) (l1 : Int32) (l2 : Int32) (h0 : ms_kd l0 = 13) : MsSpec G mX12_ofBase d 0 0 [.ref l0, .int l1, .int l2] σ (ms_ki σ) (f_X12_ofBase σ l0 l1 l2) := by
  refine ms_start (by decide +kernel) rfl rfl (Nat.le_of_ble_eq_true rfl) ?_
  show TrO G mX12_ofBase d 0 0 0 0 (ms_ki σ) 0 [(0, .ref l0), (1, .int l1), (2, .int l2)] [] σ ((f_X12_baseOf σ l0 l1).bind fun v1 => if v1 = (-1) then some 0 else (f_X12_of σ v1 l2).bind fun v2 => (ms_ald σ (ms_rf l0 0) v2).bind fun v3 => some v3)
  refine tr_aload_n (i := 0) dX12_ofBase_0 rfl ?_
  refine tr_iload_n (i := 1) dX12_ofBase_1 rfl ?_
  refine tr_c_i (ms_cV (rest := []) (al := [.int l1]) 12 (sp_X12_baseOf G hG (d - 1) (by omega) σ l0 l1 h0) h0 (by decide +kernel) kl_X12_171 fv_X12_baseOf dX12_ofBase_2 (show _ = some 1 by decide +kernel) (by omega) (Nat.le_of_ble_eq_true rfl) (by decide) (by decide)) (fun v1 => ?_)
  refine tr_istore_n (lv' := [(0, .ref l0), (2, .int l2), (3, .int v1)]) [1, 3, 0] dX12_ofBase_5 (by decide) rfl ?_
  refine tr_iload_n (i := 2) dX12_ofBase_6 rfl ?_
  refine tr_iconst (v := (-1)) dX12_ofBase_7 (by decide +kernel) ?_
  refine tr_icne (o := none) (tgt := 15) dX12_ofBase_8 (by decide) ?_ ?_
  · refine tr_aload_n (i := 0) dX12_ofBase_15 rfl ?_
    refine tr_getR 12 h0 fl_X12_9 (by decide +kernel) dX12_ofBase_16 ?_
    refine tr_iload_n (i := 2) dX12_ofBase_19 rfl ?_
    refine tr_iload_n (i := 1) dX12_ofBase_20 rfl ?_
    refine tr_c_i (ms_cS (rest := [.ref (ms_rf l0 0)]) (al := [.int v1, .int l2]) (sp_X12_of G hG (d - 1) (by omega) σ v1 l2) kl_X12_114 fs_X12_of dX12_ofBase_21 (show _ = some 2 by decide +kernel) (by omega) (Nat.le_of_ble_eq_true rfl) (by decide) (by decide)) (fun v2 => ?_)
    refine tr_ald (rk_12_0 h0) dX12_ofBase_24 (fun v3 => ?_)
    exact tr_iret rfl rfl (by decide) (by decide) dX12_ofBase_25
  · refine tr_iconst (v := 0) dX12_ofBase_11 (by decide +kernel) ?_
    refine tr_goto (tgt := 25) dX12_ofBase_12 (by decide) ?_
    exact tr_iret rfl rfl (by decide) (by decide) dX12_ofBase_25
theorem dX12_penOf_0 : decode cX12_penOf 0 = .ok (.iconst 0, 1) := by decide +kernel
theorem dX12_penOf_1 : decode cX12_penOf 1 = .ok (.istore_n 2, 1) := by decide +kernel
theorem dX12_penOf_2 : decode cX12_penOf 2 = .ok (.iconst 0, 1) := by decide +kernel
theorem dX12_penOf_3 : decode cX12_penOf 3 = .ok (.istore_n 3, 1) := by decide +kernel
theorem dX12_penOf_4 : decode cX12_penOf 4 = .ok (.iload_n 3, 1) := by decide +kernel
theorem dX12_penOf_5 : decode cX12_penOf 5 = .ok (.iload_n 1, 1) := by decide +kernel
theorem dX12_penOf_6 : decode cX12_penOf 6 = .ok (.if_icmp .ge 18, 3) := by decide +kernel
theorem dX12_penOf_9 : decode cX12_penOf 9 = .ok (.iload_n 2, 1) := by decide +kernel
theorem dX12_penOf_10 : decode cX12_penOf 10 = .ok (.aload_n 0, 1) := by decide +kernel
theorem dX12_penOf_11 : decode cX12_penOf 11 = .ok (.iload_n 3, 1) := by decide +kernel
theorem dX12_penOf_12 : decode cX12_penOf 12 = .ok (.iconst 3, 1) := by decide +kernel
theorem dX12_penOf_13 : decode cX12_penOf 13 = .ok (.invokevirtual 177, 3) := by decide +kernel
theorem dX12_penOf_16 : decode cX12_penOf 16 = .ok (.iadd, 1) := by decide +kernel
theorem dX12_penOf_17 : decode cX12_penOf 17 = .ok (.istore_n 2, 1) := by decide +kernel
theorem dX12_penOf_18 : decode cX12_penOf 18 = .ok (.iinc 3 1, 3) := by decide +kernel
theorem dX12_penOf_21 : decode cX12_penOf 21 = .ok (.goto (-17), 3) := by decide +kernel
theorem dX12_penOf_24 : decode cX12_penOf 24 = .ok (.iload_n 2, 1) := by decide +kernel
theorem dX12_penOf_25 : decode cX12_penOf 25 = .ok (.ireturn, 1) := by decide +kernel
set_option maxRecDepth 100000 in
theorem t_X12_penOf_4 (G : MG) (hG : (g_l G).stackTraces = false) (d : Nat) (hd : 5 ≤ d)   (σ : MsSt)  : ∀ (n : Nat) (l0 : Nat) (l1 : Int32) (l2 : Int32) (l3 : Int32) (h0 : ms_kd l0 = 13), TrO G mX12_penOf d 0 0 0 0 (ms_ki σ) 4 [(0, .ref l0), (1, .int l1), (2, .int l2), (3, .int l3)] [] σ (f_X12_penOf_4 σ n l0 l1 l2 l3) := by
  intro n
  induction n with
  | zero => exact fun _ _ _ _ _ => tr_none
  | succ n ih =>
    intro l0 l1 l2 l3 h0
    show TrO G mX12_penOf d 0 0 0 0 (ms_ki σ) 4 [(0, .ref l0), (1, .int l1), (2, .int l2), (3, .int l3)] [] σ (if l3 < l1 then (f_X12_ofBase σ l0 l3 3).bind fun v1 => (f_X12_penOf_4 σ n) l0 l1 (l2 + v1) (l3 + 1) else some l2)
    refine tr_iload_n (i := 3) dX12_penOf_4 rfl ?_
    refine tr_iload_n (i := 1) dX12_penOf_5 rfl ?_
    refine tr_icge (o := none) (tgt := 24) dX12_penOf_6 (by decide) ?_ ?_
    · refine tr_iload_n (i := 2) dX12_penOf_24 rfl ?_
      exact tr_iret rfl rfl (by decide) (by decide) dX12_penOf_25
    · refine tr_iload_n (i := 2) dX12_penOf_9 rfl ?_
      refine tr_aload_n (i := 0) dX12_penOf_10 rfl ?_
      refine tr_iload_n (i := 3) dX12_penOf_11 rfl ?_
      refine tr_iconst (v := 3) dX12_penOf_12 (by decide +kernel) ?_
      refine tr_c_i (ms_cV (rest := [.int l2]) (al := [.int l3, .int 3]) 12 (sp_X12_ofBase G hG (d - 1) (by omega) σ l0 l3 3 h0) h0 (by decide +kernel) kl_X12_177 fv_X12_ofBase dX12_penOf_13 (show _ = some 2 by decide +kernel) (by omega) (Nat.le_of_ble_eq_true rfl) (by decide) (by decide)) (fun v1 => ?_)
      refine tr_iadd dX12_penOf_16 ?_
      refine tr_istore_n (lv' := [(0, .ref l0), (1, .int l1), (2, .int (l2 + v1)), (3, .int l3)]) [1, 2, 0, 3] dX12_penOf_17 (by decide) rfl ?_
      refine tr_iinc (k := 3) (v := (l3 + 1)) (lv' := [(0, .ref l0), (1, .int l1), (2, .int (l2 + v1)), (3, .int (l3 + 1))]) [1, 2, 3, 0] dX12_penOf_18 rfl rfl (by decide) rfl ?_
      refine tr_goto (tgt := 4) dX12_penOf_21 (by decide) ?_
      exact (fun y0 y1 y2 y3 g0 => ih y0 y1 y2 y3 g0) l0 l1 (l2 + v1) (l3 + 1) h0
set_option maxRecDepth 100000 in
theorem sp_X12_penOf (G : MG) (hG : (g_l G).stackTraces = false) (d : Nat) (hd : 5 ≤ d)   (σ : MsSt) (l0 : Nat) (l1 : Int32) (h0 : ms_kd l0 = 13) : MsSpec G mX12_penOf d 0 0 [.ref l0, .int l1] σ (ms_ki σ) (f_X12_penOf σ l0 l1) := by
  refine ms_start (by decide +kernel) rfl rfl (Nat.le_of_ble_eq_true rfl) ?_
  show TrO G mX12_penOf d 0 0 0 0 (ms_ki σ) 0 [(0, .ref l0), (1, .int l1)] [] σ (f_X12_penOf_4 σ ms_fuel l0 l1 0 0)
  refine tr_iconst (v := 0) dX12_penOf_0 (by decide +kernel) ?_
  refine tr_istore_n (lv' := [(0, .ref l0), (1, .int l1), (2, .int 0)]) [1, 2, 0] dX12_penOf_1 (by decide) rfl ?_
  refine tr_iconst (v := 0) dX12_penOf_2 (by decide +kernel) ?_
  refine tr_istore_n (lv' := [(0, .ref l0), (1, .int l1), (2, .int 0), (3, .int 0)]) [1, 2, 3, 0] dX12_penOf_3 (by decide) rfl ?_
  exact t_X12_penOf_4 G hG d hd σ ms_fuel l0 l1 0 0 h0
theorem dX12_isCluster_0 : decode cX12_isCluster 0 = .ok (.aload_n 0, 1) := by decide +kernel
theorem dX12_isCluster_1 : decode cX12_isCluster 1 = .ok (.iload_n 1, 1) := by decide +kernel
theorem dX12_isCluster_2 : decode cX12_isCluster 2 = .ok (.invokevirtual 118, 3) := by decide +kernel
theorem dX12_isCluster_5 : decode cX12_isCluster 5 = .ok (.ifCond .ne 5, 3) := by decide +kernel
theorem dX12_isCluster_8 : decode cX12_isCluster 8 = .ok (.iconst 0, 1) := by decide +kernel
theorem dX12_isCluster_9 : decode cX12_isCluster 9 = .ok (.ireturn, 1) := by decide +kernel
theorem dX12_isCluster_10 : decode cX12_isCluster 10 = .ok (.aload_n 0, 1) := by decide +kernel
theorem dX12_isCluster_11 : decode cX12_isCluster 11 = .ok (.iload_n 1, 1) := by decide +kernel
theorem dX12_isCluster_12 : decode cX12_isCluster 12 = .ok (.invokevirtual 180, 3) := by decide +kernel
theorem dX12_isCluster_15 : decode cX12_isCluster 15 = .ok (.iload_n 2, 1) := by decide +kernel
theorem dX12_isCluster_16 : decode cX12_isCluster 16 = .ok (.i2l, 1) := by decide +kernel
theorem dX12_isCluster_17 : decode cX12_isCluster 17 = .ok (.lconst 0, 1) := by decide +kernel
theorem dX12_isCluster_18 : decode cX12_isCluster 18 = .ok (.aload_n 0, 1) := by decide +kernel
theorem dX12_isCluster_19 : decode cX12_isCluster 19 = .ok (.getfield 168, 3) := by decide +kernel
theorem dX12_isCluster_22 : decode cX12_isCluster 22 = .ok (.iconst 1, 1) := by decide +kernel
theorem dX12_isCluster_23 : decode cX12_isCluster 23 = .ok (.isub, 1) := by decide +kernel
theorem dX12_isCluster_24 : decode cX12_isCluster 24 = .ok (.i2l, 1) := by decide +kernel
theorem dX12_isCluster_25 : decode cX12_isCluster 25 = .ok (.invokestatic 110, 3) := by decide +kernel
theorem dX12_isCluster_28 : decode cX12_isCluster 28 = .ok (.ireturn, 1) := by decide +kernel
set_option maxRecDepth 100000 in
theorem sp_X12_isCluster (G : MG) (hG : (g_l G).stackTraces = false) (d : Nat) (hd : 7 ≤ d)   (σ : MsSt) (l0 : Nat) (l1 : Int32) (l2 : Int32) (h0 : ms_kd l0 = 13) : MsSpec G mX12_isCluster d 0 0 [.ref l0, .int l1, .int l2] σ ms_wi (f_X12_isCluster σ l0 l1 l2) := by
  refine ms_start (by decide +kernel) rfl rfl (Nat.le_of_ble_eq_true rfl) ?_
  show TrO G mX12_isCluster d 0 0 0 0 ms_wi 0 [(0, .ref l0), (1, .int l1), (2, .int l2)] [] σ ((f_X12_isLine σ l0 l1).bind fun v1 => if v1 = 0 then some (0, σ) else (f_X12_layClusters σ l0 l1).bind fun s2 => (f_X12_inRange s2 l2.toInt64 0 (((ms_i s2 l0 17) - 1).toInt64)).bind fun v3 => (ms_bz v3).bind fun v4 => some (v4, s2))
  refine tr_aload_n (i := 0) dX12_isCluster_0 rfl ?_
  refine tr_iload_n (i := 1) dX12_isCluster_1 rfl ?_
  refine tr_c_i (ms_cV (rest := []) (al := [.int l1]) 12 (sp_X12_isLine G hG (d - 1) (by omega) σ l0 l1 h0) h0 (by decide +kernel) kl_X12_118 fv_X12_isLine dX12_isCluster_2 (show _ = some 1 by decide +kernel) (by omega) (Nat.le_of_ble_eq_true rfl) (by decide) (by decide)) (fun v1 => ?_)
  refine tr_ifne (o := none) (tgt := 10) dX12_isCluster_5 (by decide) ?_ ?_
  · refine tr_aload_n (i := 0) dX12_isCluster_10 rfl ?_
    refine tr_iload_n (i := 1) dX12_isCluster_11 rfl ?_
    refine tr_c_wv (ms_cV (rest := []) (al := [.int l1]) 12 (sp_X12_layClusters G hG (d - 1) (by omega) σ l0 l1 h0) h0 (by decide +kernel) kl_X12_180 fv_X12_layClusters dX12_isCluster_12 (show _ = some 1 by decide +kernel) (by omega) (Nat.le_of_ble_eq_true rfl) (by decide) (by decide)) (fun s2 => ?_)
    refine tr_iload_n (i := 2) dX12_isCluster_15 rfl ?_
    refine tr_i2l dX12_isCluster_16 ?_
    refine tr_lconst (v := 0) dX12_isCluster_17 (by decide +kernel) ?_
    refine tr_aload_n (i := 0) dX12_isCluster_18 rfl ?_
    refine tr_getI 12 h0 fl_X12_168 (by decide +kernel) dX12_isCluster_19 ?_
    refine tr_iconst (v := 1) dX12_isCluster_22 (by decide +kernel) ?_
    refine tr_isub dX12_isCluster_23 ?_
    refine tr_i2l dX12_isCluster_24 ?_
    refine tr_c_i (ms_cS (rest := []) (al := [.long l2.toInt64, .long 0, .long (((ms_i s2 l0 17) - 1).toInt64)]) (sp_X12_inRange G hG (d - 1) (by omega) s2 l2.toInt64 0 (((ms_i s2 l0 17) - 1).toInt64)) kl_X12_110 fs_X12_inRange dX12_isCluster_25 (show _ = some 3 by decide +kernel) (by omega) (Nat.le_of_ble_eq_true rfl) (by decide) (by decide)) (fun v3 => ?_)
    exact tr_bret rfl rfl rfl (by decide) (by decide) dX12_isCluster_28
  · refine tr_iconst (v := 0) dX12_isCluster_8 (by decide +kernel) ?_
    exact tr_zret rfl (by decide +kernel) rfl (by decide) (by decide) dX12_isCluster_9
theorem dX12_noCluster_0 : decode cX12_noCluster 0 = .ok (.aload_n 0, 1) := by decide +kernel
theorem dX12_noCluster_1 : decode cX12_noCluster 1 = .ok (.aload_n 0, 1) := by decide +kernel
theorem dX12_noCluster_2 : decode cX12_noCluster 2 = .ok (.iload_n 1, 1) := by decide +kernel
theorem dX12_noCluster_3 : decode cX12_noCluster 3 = .ok (.iload_n 2, 1) := by decide +kernel
theorem dX12_noCluster_4 : decode cX12_noCluster 4 = .ok (.invokevirtual 183, 3) := by decide +kernel
theorem dX12_noCluster_7 : decode cX12_noCluster 7 = .ok (.ifCond .eq 7, 3) := by decide +kernel
theorem dX12_noCluster_10 : decode cX12_noCluster 10 = .ok (.iconst 0, 1) := by decide +kernel
theorem dX12_noCluster_11 : decode cX12_noCluster 11 = .ok (.goto 4, 3) := by decide +kernel
theorem dX12_noCluster_14 : decode cX12_noCluster 14 = .ok (.iconst 1, 1) := by decide +kernel
theorem dX12_noCluster_15 : decode cX12_noCluster 15 = .ok (.putfield 107, 3) := by decide +kernel
theorem dX12_noCluster_18 : decode cX12_noCluster 18 = .ok (.aload_n 0, 1) := by decide +kernel
theorem dX12_noCluster_19 : decode cX12_noCluster 19 = .ok (.getfield 107, 3) := by decide +kernel
theorem dX12_noCluster_22 : decode cX12_noCluster 22 = .ok (.ifCond .eq 7, 3) := by decide +kernel
theorem dX12_noCluster_25 : decode cX12_noCluster 25 = .ok (.iconst 1, 1) := by decide +kernel
theorem dX12_noCluster_26 : decode cX12_noCluster 26 = .ok (.goto 4, 3) := by decide +kernel
theorem dX12_noCluster_29 : decode cX12_noCluster 29 = .ok (.iconst 0, 1) := by decide +kernel
theorem dX12_noCluster_30 : decode cX12_noCluster 30 = .ok (.ireturn, 1) := by decide +kernel
set_option maxRecDepth 100000 in
theorem sp_X12_noCluster (G : MG) (hG : (g_l G).stackTraces = false) (d : Nat) (hd : 8 ≤ d)   (σ : MsSt) (l0 : Nat) (l1 : Int32) (l2 : Int32) (h0 : ms_kd l0 = 13) : MsSpec G mX12_noCluster d 0 0 [.ref l0, .int l1, .int l2] σ ms_wi (f_X12_noCluster σ l0 l1 l2) := by
  refine ms_start (by decide +kernel) rfl rfl (Nat.le_of_ble_eq_true rfl) ?_
  show TrO G mX12_noCluster d 0 0 0 0 ms_wi 0 [(0, .ref l0), (1, .int l1), (2, .int l2)] [] σ (ms_b2 (f_X12_isCluster σ l0 l1 l2) fun v1 s2 => if v1 = 0 then ms_nm (ms_si s2 l0 7 1) fun s3 => if (ms_i s3 l0 7) = 0 then some (0, s3) else some (1, s3) else ms_nm (ms_si s2 l0 7 0) fun s4 => if (ms_i s4 l0 7) = 0 then some (0, s4) else some (1, s4))
  refine tr_aload_n (i := 0) dX12_noCluster_0 rfl ?_
  refine tr_aload_n (i := 0) dX12_noCluster_1 rfl ?_
  refine tr_iload_n (i := 1) dX12_noCluster_2 rfl ?_
  refine tr_iload_n (i := 2) dX12_noCluster_3 rfl ?_
  refine tr_d_wi (ms_cV (rest := [.ref l0]) (al := [.int l1, .int l2]) 12 (sp_X12_isCluster G hG (d - 1) (by omega) σ l0 l1 l2 h0) h0 (by decide +kernel) kl_X12_183 fv_X12_isCluster dX12_noCluster_4 (show _ = some 2 by decide +kernel) (by omega) (Nat.le_of_ble_eq_true rfl) (by decide) (by decide)) (fun v1 s2 => ?_)
  refine tr_ifeq (o := none) (tgt := 14) dX12_noCluster_7 (by decide) ?_ ?_
  · refine tr_iconst (v := 1) dX12_noCluster_14 (by decide +kernel) ?_
    refine tr_putI 12 h0 fl_X12_107 (by decide +kernel) dX12_noCluster_15 ?_
    refine ms_ltS (fun s3 => ?_)
    refine tr_aload_n (i := 0) dX12_noCluster_18 rfl ?_
    refine tr_getI 12 h0 fl_X12_107 (by decide +kernel) dX12_noCluster_19 ?_
    refine tr_ifeq (o := none) (tgt := 29) dX12_noCluster_22 (by decide) ?_ ?_
    · refine tr_iconst (v := 0) dX12_noCluster_29 (by decide +kernel) ?_
      exact tr_zret rfl (by decide +kernel) rfl (by decide) (by decide) dX12_noCluster_30
    · refine tr_iconst (v := 1) dX12_noCluster_25 (by decide +kernel) ?_
      refine tr_goto (tgt := 30) dX12_noCluster_26 (by decide) ?_
      exact tr_zret rfl (by decide +kernel) rfl (by decide) (by decide) dX12_noCluster_30
  · refine tr_iconst (v := 0) dX12_noCluster_10 (by decide +kernel) ?_
    refine tr_goto (tgt := 15) dX12_noCluster_11 (by decide) ?_
    refine tr_putI 12 h0 fl_X12_107 (by decide +kernel) dX12_noCluster_15 ?_
    refine ms_ltS (fun s4 => ?_)
    refine tr_aload_n (i := 0) dX12_noCluster_18 rfl ?_
    refine tr_getI 12 h0 fl_X12_107 (by decide +kernel) dX12_noCluster_19 ?_
    refine tr_ifeq (o := none) (tgt := 29) dX12_noCluster_22 (by decide) ?_ ?_
    · refine tr_iconst (v := 0) dX12_noCluster_29 (by decide +kernel) ?_
      exact tr_zret rfl (by decide +kernel) rfl (by decide) (by decide) dX12_noCluster_30
    · refine tr_iconst (v := 1) dX12_noCluster_25 (by decide +kernel) ?_
      refine tr_goto (tgt := 30) dX12_noCluster_26 (by decide) ?_
      exact tr_zret rfl (by decide +kernel) rfl (by decide) (by decide) dX12_noCluster_30
