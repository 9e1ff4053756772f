/-! X12: the bytecode does what the functions say (by program: wip/whole/gen) -/
theorem dX12_format_0 : decode cX12_format 0 = .ok (.aload_n 0, 1) := by decide +kernel
theorem dX12_format_1 : decode cX12_format 1 = .ok (.aload_n 0, 1) := by decide +kernel
theorem dX12_format_2 : decode cX12_format 2 = .ok (.iload_n 1, 1) := by decide +kernel
theorem dX12_format_3 : decode cX12_format 3 = .ok (.invokevirtual 118, 3) := by decide +kernel
theorem dX12_format_6 : decode cX12_format 6 = .ok (.ifCond .eq 19, 3) := by decide +kernel
theorem dX12_format_9 : decode cX12_format 9 = .ok (.iload_n 2, 1) := by decide +kernel
theorem dX12_format_10 : decode cX12_format 10 = .ok (.i2l, 1) := by decide +kernel
theorem dX12_format_11 : decode cX12_format 11 = .ok (.lconst 0, 1) := by decide +kernel
theorem dX12_format_12 : decode cX12_format 12 = .ok (.ldc2_w 265, 3) := by decide +kernel
theorem dX12_format_15 : decode cX12_format 15 = .ok (.invokestatic 110, 3) := by decide +kernel
theorem dX12_format_18 : decode cX12_format 18 = .ok (.ifCond .eq 7, 3) := by decide +kernel
theorem dX12_format_21 : decode cX12_format 21 = .ok (.iconst 0, 1) := by decide +kernel
theorem dX12_format_22 : decode cX12_format 22 = .ok (.goto 4, 3) := by decide +kernel
theorem dX12_format_25 : decode cX12_format 25 = .ok (.iconst 1, 1) := by decide +kernel
theorem dX12_format_26 : decode cX12_format 26 = .ok (.putfield 107, 3) := by decide +kernel
theorem dX12_format_29 : decode cX12_format 29 = .ok (.aload_n 0, 1) := by decide +kernel
theorem dX12_format_30 : decode cX12_format 30 = .ok (.getfield 107, 3) := by decide +kernel
theorem dX12_format_33 : decode cX12_format 33 = .ok (.ifCond .eq 5, 3) := by decide +kernel
theorem dX12_format_36 : decode cX12_format 36 = .ok (.iconst 0, 1) := by decide +kernel
theorem dX12_format_37 : decode cX12_format 37 = .ok (.ireturn, 1) := by decide +kernel
theorem dX12_format_38 : decode cX12_format 38 = .ok (.aload_n 0, 1) := by decide +kernel
theorem dX12_format_39 : decode cX12_format 39 = .ok (.iconst 0, 1) := by decide +kernel
theorem dX12_format_40 : decode cX12_format 40 = .ok (.putfield 340, 3) := by decide +kernel
theorem dX12_format_43 : decode cX12_format 43 = .ok (.aload_n 0, 1) := by decide +kernel
theorem dX12_format_44 : decode cX12_format 44 = .ok (.iload_n 1, 1) := by decide +kernel
theorem dX12_format_45 : decode cX12_format 45 = .ok (.invokevirtual 262, 3) := by decide +kernel
theorem dX12_format_48 : decode cX12_format 48 = .ok (.iconst 0, 1) := by decide +kernel
theorem dX12_format_49 : decode cX12_format 49 = .ok (.istore_n 3, 1) := by decide +kernel
theorem dX12_format_50 : decode cX12_format 50 = .ok (.iload_n 3, 1) := by decide +kernel
theorem dX12_format_51 : decode cX12_format 51 = .ok (.aload_n 0, 1) := by decide +kernel
theorem dX12_format_52 : decode cX12_format 52 = .ok (.iload_n 1, 1) := by decide +kernel
theorem dX12_format_53 : decode cX12_format 53 = .ok (.iload_n 2, 1) := by decide +kernel
theorem dX12_format_54 : decode cX12_format 54 = .ok (.invokevirtual 267, 3) := by decide +kernel
theorem dX12_format_57 : decode cX12_format 57 = .ok (.if_icmp .ge 30, 3) := by decide +kernel
theorem dX12_format_60 : decode cX12_format 60 = .ok (.iload_n 3, 1) := by decide +kernel
theorem dX12_format_61 : decode cX12_format 61 = .ok (.ifCond .le 9, 3) := by decide +kernel
theorem dX12_format_64 : decode cX12_format 64 = .ok (.aload_n 0, 1) := by decide +kernel
theorem dX12_format_65 : decode cX12_format 65 = .ok (.bipush 32, 2) := by decide +kernel
theorem dX12_format_67 : decode cX12_format 67 = .ok (.invokevirtual 343, 3) := by decide +kernel
theorem dX12_format_70 : decode cX12_format 70 = .ok (.aload_n 0, 1) := by decide +kernel
theorem dX12_format_71 : decode cX12_format 71 = .ok (.aload_n 0, 1) := by decide +kernel
theorem dX12_format_72 : decode cX12_format 72 = .ok (.iload_n 1, 1) := by decide +kernel
theorem dX12_format_73 : decode cX12_format 73 = .ok (.iload_n 2, 1) := by decide +kernel
theorem dX12_format_74 : decode cX12_format 74 = .ok (.iload_n 3, 1) := by decide +kernel
theorem dX12_format_75 : decode cX12_format 75 = .ok (.invokevirtual 270, 3) := by decide +kernel
theorem dX12_format_78 : decode cX12_format 78 = .ok (.invokevirtual 346, 3) := by decide +kernel
theorem dX12_format_81 : decode cX12_format 81 = .ok (.iinc 3 1, 3) := by decide +kernel
theorem dX12_format_84 : decode cX12_format 84 = .ok (.goto (-34), 3) := by decide +kernel
theorem dX12_format_87 : decode cX12_format 87 = .ok (.aload_n 0, 1) := by decide +kernel
theorem dX12_format_88 : decode cX12_format 88 = .ok (.getfield 340, 3) := by decide +kernel
theorem dX12_format_91 : decode cX12_format 91 = .ok (.ireturn, 1) := by decide +kernel
set_option maxRecDepth 100000 in
theorem t_X12_format_70 (G : MG) (hG : (g_l G).stackTraces = false) (d : Nat) (hd : 7 ≤ d)   (k50 : MsSt → Nat → Int32 → Int32 → Int32 → Option (Int32 × MsSt)) (hk50 : ∀ (s : MsSt) (x1 : Nat) (x2 : Int32) (x3 : Int32) (x4 : Int32), ms_kd x1 = 13 → TrO G mX12_format d 0 0 0 0 ms_wi 50 [(0, .ref x1), (1, .int x2), (2, .int x3), (3, .int x4)] [] s (k50 s x1 x2 x3 x4)) (σ : MsSt) (l0 : Nat) (l1 : Int32) (l2 : Int32) (l3 : Int32) (h0 : ms_kd l0 = 13) : TrO G mX12_format d 0 0 0 0 ms_wi 70 [(0, .ref l0), (1, .int l1), (2, .int l2), (3, .int l3)] [] σ (f_X12_format_70 k50 σ l0 l1 l2 l3) := by
  show TrO G mX12_format d 0 0 0 0 ms_wi 70 [(0, .ref l0), (1, .int l1), (2, .int l2), (3, .int l3)] [] σ ((f_X12_signIn σ l0 l1 l2 l3).bind fun v6 => (f_X12_putSign σ l0 v6).bind fun s7 => k50 s7 l0 l1 l2 (l3 + 1))
  refine tr_aload_n (i := 0) dX12_format_70 rfl ?_
  refine tr_aload_n (i := 0) dX12_format_71 rfl ?_
  refine tr_iload_n (i := 1) dX12_format_72 rfl ?_
  refine tr_iload_n (i := 2) dX12_format_73 rfl ?_
  refine tr_iload_n (i := 3) dX12_format_74 rfl ?_
  refine tr_c_i (ms_cV (rest := [.ref l0]) (al := [.int l1, .int l2, .int l3]) 12 (sp_X12_signIn G hG (d - 1) (by omega) σ l0 l1 l2 l3 h0) h0 (by decide +kernel) kl_X12_270 fv_X12_signIn dX12_format_75 (show _ = some 3 by decide +kernel) (by omega) (Nat.le_of_ble_eq_true rfl) (by decide) (by decide)) (fun v6 => ?_)
  refine tr_c_wv (ms_cV (rest := []) (al := [.int v6]) 12 (sp_X12_putSign G hG (d - 1) (by omega) σ l0 v6 h0) h0 (by decide +kernel) kl_X12_346 fv_X12_putSign dX12_format_78 (show _ = some 1 by decide +kernel) (by omega) (Nat.le_of_ble_eq_true rfl) (by decide) (by decide)) (fun s7 => ?_)
  refine tr_iinc (k := 3) (v := (l3 + 1)) (lv' := [(0, .ref l0), (1, .int l1), (2, .int l2), (3, .int (l3 + 1))]) [1, 2, 3, 0] dX12_format_81 rfl rfl (by decide) rfl ?_
  refine tr_goto (tgt := 50) dX12_format_84 (by decide) ?_
  exact hk50 s7 l0 l1 l2 (l3 + 1) h0
set_option maxRecDepth 100000 in
theorem t_X12_format_50 (G : MG) (hG : (g_l G).stackTraces = false) (d : Nat) (hd : 7 ≤ d)    : ∀ (n : Nat) (σ : MsSt) (l0 : Nat) (l1 : Int32) (l2 : Int32) (l3 : Int32) (h0 : ms_kd l0 = 13), TrO G mX12_format d 0 0 0 0 ms_wi 50 [(0, .ref l0), (1, .int l1), (2, .int l2), (3, .int l3)] [] σ (f_X12_format_50 n σ l0 l1 l2 l3) := by
  intro n
  induction n with
  | zero => exact fun _ _ _ _ _ _ => tr_none
  | succ n ih =>
    intro σ l0 l1 l2 l3 h0
    show TrO G mX12_format d 0 0 0 0 ms_wi 50 [(0, .ref l0), (1, .int l1), (2, .int l2), (3, .int l3)] [] σ ((f_X12_manyIn σ l0 l1 l2).bind fun v5 => if l3 < v5 then if 0 < l3 then (f_X12_put σ l0 32).bind fun s8 => f_X12_format_70 (f_X12_format_50 n) s8 l0 l1 l2 l3 else f_X12_format_70 (f_X12_format_50 n) σ l0 l1 l2 l3 else some ((ms_i σ l0 25), σ))
    refine tr_iload_n (i := 3) dX12_format_50 rfl ?_
    refine tr_aload_n (i := 0) dX12_format_51 rfl ?_
    refine tr_iload_n (i := 1) dX12_format_52 rfl ?_
    refine tr_iload_n (i := 2) dX12_format_53 rfl ?_
    refine tr_c_i (ms_cV (rest := [.int l3]) (al := [.int l1, .int l2]) 12 (sp_X12_manyIn G hG (d - 1) (by omega) σ l0 l1 l2 h0) h0 (by decide +kernel) kl_X12_267 fv_X12_manyIn dX12_format_54 (show _ = some 2 by decide +kernel) (by omega) (Nat.le_of_ble_eq_true rfl) (by decide) (by decide)) (fun v5 => ?_)
    refine tr_icge (o := none) (tgt := 87) dX12_format_57 (by decide) ?_ ?_
    · refine tr_aload_n (i := 0) dX12_format_87 rfl ?_
      refine tr_getI 12 h0 fl_X12_340 (by decide +kernel) dX12_format_88 ?_
      exact tr_iret rfl rfl (by decide) (by decide) dX12_format_91
    · refine tr_iload_n (i := 3) dX12_format_60 rfl ?_
      refine tr_ifle (o := none) (tgt := 70) dX12_format_61 (by decide) ?_ ?_
      · exact t_X12_format_70 G hG d hd (f_X12_format_50 n) (fun s y0 y1 y2 y3 g0 => ih s y0 y1 y2 y3 g0) σ l0 l1 l2 l3 h0
      · refine tr_aload_n (i := 0) dX12_format_64 rfl ?_
        refine tr_bipush (v := 32) dX12_format_65 (by decide +kernel) ?_
        refine tr_c_wv (ms_cV (rest := []) (al := [.int 32]) 12 (sp_X12_put G hG (d - 1) (by omega) σ l0 32 h0) h0 (by decide +kernel) kl_X12_343 fv_X12_put dX12_format_67 (show _ = some 1 by decide +kernel) (by omega) (Nat.le_of_ble_eq_true rfl) (by decide) (by decide)) (fun s8 => ?_)
        exact t_X12_format_70 G hG d hd (f_X12_format_50 n) (fun s y0 y1 y2 y3 g0 => ih s y0 y1 y2 y3 g0) s8 l0 l1 l2 l3 h0
set_option maxRecDepth 100000 in
theorem t_X12_format_26 (G : MG) (hG : (g_l G).stackTraces = false) (d : Nat) (hd : 7 ≤ d)    (σ : MsSt) (l0 : Nat) (l1 : Int32) (l2 : Int32) (t0 : Int32) (t1 : Nat) (h0 : ms_kd l0 = 13) (ht1 : ms_kd t1 = 13) : TrO G mX12_format d 0 0 0 0 ms_wi 26 [(0, .ref l0), (1, .int l1), (2, .int l2)] [.int t0, .ref t1] σ (f_X12_format_26 σ l0 l1 l2 t0 t1) := by
  show TrO G mX12_format d 0 0 0 0 ms_wi 26 [(0, .ref l0), (1, .int l1), (2, .int l2)] [.int t0, .ref t1] σ (ms_nm (ms_si σ t1 7 t0) fun s2 => if (ms_i s2 l0 7) = 0 then ms_nm (ms_si s2 l0 25 0) fun s3 => (f_X12_layForms s3 l0 l1).bind fun s4 => f_X12_format_50 ms_fuel s4 l0 l1 l2 0 else some (0, s2))
  refine tr_putI 12 ht1 fl_X12_107 (by decide +kernel) dX12_format_26 ?_
  refine ms_ltS (fun s2 => ?_)
  refine tr_aload_n (i := 0) dX12_format_29 rfl ?_
  refine tr_getI 12 h0 fl_X12_107 (by decide +kernel) dX12_format_30 ?_
  refine tr_ifeq (o := none) (tgt := 38) dX12_format_33 (by decide) ?_ ?_
  · refine tr_aload_n (i := 0) dX12_format_38 rfl ?_
    refine tr_iconst (v := 0) dX12_format_39 (by decide +kernel) ?_
    refine tr_putI 12 h0 fl_X12_340 (by decide +kernel) dX12_format_40 ?_
    refine ms_ltS (fun s3 => ?_)
    refine tr_aload_n (i := 0) dX12_format_43 rfl ?_
    refine tr_iload_n (i := 1) dX12_format_44 rfl ?_
    refine tr_c_wv (ms_cV (rest := []) (al := [.int l1]) 12 (sp_X12_layForms G hG (d - 1) (by omega) s3 l0 l1 h0) h0 (by decide +kernel) kl_X12_262 fv_X12_layForms dX12_format_45 (show _ = some 1 by decide +kernel) (by omega) (Nat.le_of_ble_eq_true rfl) (by decide) (by decide)) (fun s4 => ?_)
    refine tr_iconst (v := 0) dX12_format_48 (by decide +kernel) ?_
    refine tr_istore_n (lv' := [(0, .ref l0), (1, .int l1), (2, .int l2), (3, .int 0)]) [1, 2, 3, 0] dX12_format_49 (by decide) rfl ?_
    exact t_X12_format_50 G hG d hd ms_fuel s4 l0 l1 l2 0 h0
  · refine tr_iconst (v := 0) dX12_format_36 (by decide +kernel) ?_
    exact tr_iret rfl rfl (by decide) (by decide) dX12_format_37
set_option maxRecDepth 100000 in
theorem t_X12_format_25 (G : MG) (hG : (g_l G).stackTraces = false) (d : Nat) (hd : 7 ≤ d)    (σ : MsSt) (l0 : Nat) (l1 : Int32) (l2 : Int32) (t0 : Nat) (h0 : ms_kd l0 = 13) (ht0 : ms_kd t0 = 13) : TrO G mX12_format d 0 0 0 0 ms_wi 25 [(0, .ref l0), (1, .int l1), (2, .int l2)] [.ref t0] σ (f_X12_format_25 σ l0 l1 l2 t0) := by
  show TrO G mX12_format d 0 0 0 0 ms_wi 25 [(0, .ref l0), (1, .int l1), (2, .int l2)] [.ref t0] σ (f_X12_format_26 σ l0 l1 l2 1 t0)
  refine tr_iconst (v := 1) dX12_format_25 (by decide +kernel) ?_
  exact t_X12_format_26 G hG d hd σ l0 l1 l2 1 t0 h0 ht0
set_option maxRecDepth 100000 in
theorem sp_X12_format (G : MG) (hG : (g_l G).stackTraces = false) (d : Nat) (hd : 7 ≤ d)   (σ : MsSt) (l0 : Nat) (l1 : Int32) (l2 : Int32) (h0 : ms_kd l0 = 13) : MsSpec G mX12_format d 0 0 [.ref l0, .int l1, .int l2] σ ms_wi (f_X12_format σ l0 l1 l2) := by
  refine ms_start (by decide +kernel) rfl rfl (Nat.le_of_ble_eq_true rfl) ?_
  show TrO G mX12_format d 0 0 0 0 ms_wi 0 [(0, .ref l0), (1, .int l1), (2, .int l2)] [] σ ((f_X12_isLine σ l0 l1).bind fun v1 => if v1 = 0 then f_X12_format_25 σ l0 l1 l2 l0 else (f_X12_inRange σ l2.toInt64 0 2).bind fun v9 => if v9 = 0 then f_X12_format_25 σ l0 l1 l2 l0 else f_X12_format_26 σ l0 l1 l2 0 l0)
  refine tr_aload_n (i := 0) dX12_format_0 rfl ?_
  refine tr_aload_n (i := 0) dX12_format_1 rfl ?_
  refine tr_iload_n (i := 1) dX12_format_2 rfl ?_
  refine tr_c_i (ms_cV (rest := [.ref l0]) (al := [.int l1]) 12 (sp_X12_isLine G hG (d - 1) (by omega) σ l0 l1 h0) h0 (by decide +kernel) kl_X12_118 fv_X12_isLine dX12_format_3 (show _ = some 1 by decide +kernel) (by omega) (Nat.le_of_ble_eq_true rfl) (by decide) (by decide)) (fun v1 => ?_)
  refine tr_ifeq (o := none) (tgt := 25) dX12_format_6 (by decide) ?_ ?_
  · exact t_X12_format_25 G hG d hd σ l0 l1 l2 l0 h0 h0
  · refine tr_iload_n (i := 2) dX12_format_9 rfl ?_
    refine tr_i2l dX12_format_10 ?_
    refine tr_lconst (v := 0) dX12_format_11 (by decide +kernel) ?_
    refine tr_ldcl (v := 2) (List.mem_of_getElem? (i := 1943) (by decide +kernel)) dX12_format_12 ?_
    refine tr_c_i (ms_cS (rest := [.ref l0]) (al := [.long l2.toInt64, .long 0, .long 2]) (sp_X12_inRange G hG (d - 1) (by omega) σ l2.toInt64 0 2) kl_X12_110 fs_X12_inRange dX12_format_15 (show _ = some 3 by decide +kernel) (by omega) (Nat.le_of_ble_eq_true rfl) (by decide) (by decide)) (fun v9 => ?_)
    refine tr_ifeq (o := none) (tgt := 25) dX12_format_18 (by decide) ?_ ?_
    · exact t_X12_format_25 G hG d hd σ l0 l1 l2 l0 h0 h0
    · refine tr_iconst (v := 0) dX12_format_21 (by decide +kernel) ?_
      refine tr_goto (tgt := 26) dX12_format_22 (by decide) ?_
      exact t_X12_format_26 G hG d hd σ l0 l1 l2 0 l0 h0 h0
theorem dX12_formattedByte_0 : decode cX12_formattedByte 0 = .ok (.aload_n 0, 1) := by decide +kernel
theorem dX12_formattedByte_1 : decode cX12_formattedByte 1 = .ok (.iconst 0, 1) := by decide +kernel
theorem dX12_formattedByte_2 : decode cX12_formattedByte 2 = .ok (.putfield 107, 3) := by decide +kernel
theorem dX12_formattedByte_5 : decode cX12_formattedByte 5 = .ok (.iload_n 1, 1) := by decide +kernel
theorem dX12_formattedByte_6 : decode cX12_formattedByte 6 = .ok (.i2l, 1) := by decide +kernel
theorem dX12_formattedByte_7 : decode cX12_formattedByte 7 = .ok (.lconst 0, 1) := by decide +kernel
theorem dX12_formattedByte_8 : decode cX12_formattedByte 8 = .ok (.aload_n 0, 1) := by decide +kernel
theorem dX12_formattedByte_9 : decode cX12_formattedByte 9 = .ok (.getfield 340, 3) := by decide +kernel
theorem dX12_formattedByte_12 : decode cX12_formattedByte 12 = .ok (.iconst 1, 1) := by decide +kernel
theorem dX12_formattedByte_13 : decode cX12_formattedByte 13 = .ok (.isub, 1) := by decide +kernel
theorem dX12_formattedByte_14 : decode cX12_formattedByte 14 = .ok (.i2l, 1) := by decide +kernel
theorem dX12_formattedByte_15 : decode cX12_formattedByte 15 = .ok (.invokestatic 110, 3) := by decide +kernel
theorem dX12_formattedByte_18 : decode cX12_formattedByte 18 = .ok (.ifCond .eq 12, 3) := by decide +kernel
theorem dX12_formattedByte_21 : decode cX12_formattedByte 21 = .ok (.aload_n 0, 1) := by decide +kernel
theorem dX12_formattedByte_22 : decode cX12_formattedByte 22 = .ok (.getfield 59, 3) := by decide +kernel
theorem dX12_formattedByte_25 : decode cX12_formattedByte 25 = .ok (.iload_n 1, 1) := by decide +kernel
theorem dX12_formattedByte_26 : decode cX12_formattedByte 26 = .ok (.iaload, 1) := by decide +kernel
theorem dX12_formattedByte_27 : decode cX12_formattedByte 27 = .ok (.goto 4, 3) := by decide +kernel
theorem dX12_formattedByte_30 : decode cX12_formattedByte 30 = .ok (.iconst (-1), 1) := by decide +kernel
theorem dX12_formattedByte_31 : decode cX12_formattedByte 31 = .ok (.ireturn, 1) := by decide +kernel
set_option maxRecDepth 100000 in
theorem sp_X12_formattedByte (G : MG) (hG : (g_l G).stackTraces = false) (d : Nat) (hd : 1 ≤ d)   (σ : MsSt) (l0 : Nat) (l1 : Int32) (h0 : ms_kd l0 = 13) : MsSpec G mX12_formattedByte d 0 0 [.ref l0, .int l1] σ ms_wi (f_X12_formattedByte σ l0 l1) := by
  refine ms_start (by decide +kernel) rfl rfl (Nat.le_of_ble_eq_true rfl) ?_
  show TrO G mX12_formattedByte d 0 0 0 0 ms_wi 0 [(0, .ref l0), (1, .int l1)] [] σ (ms_nm (ms_si σ l0 7 0) fun s1 => (f_X12_inRange s1 l1.toInt64 0 (((ms_i s1 l0 25) - 1).toInt64)).bind fun v2 => if v2 = 0 then some ((-1), s1) else (ms_ald s1 (ms_rf l0 24) l1).bind fun v3 => some (v3, s1))
  refine tr_aload_n (i := 0) dX12_formattedByte_0 rfl ?_
  refine tr_iconst (v := 0) dX12_formattedByte_1 (by decide +kernel) ?_
  refine tr_putI 12 h0 fl_X12_107 (by decide +kernel) dX12_formattedByte_2 ?_
  refine ms_ltS (fun s1 => ?_)
  refine tr_iload_n (i := 1) dX12_formattedByte_5 rfl ?_
  refine tr_i2l dX12_formattedByte_6 ?_
  refine tr_lconst (v := 0) dX12_formattedByte_7 (by decide +kernel) ?_
  refine tr_aload_n (i := 0) dX12_formattedByte_8 rfl ?_
  refine tr_getI 12 h0 fl_X12_340 (by decide +kernel) dX12_formattedByte_9 ?_
  refine tr_iconst (v := 1) dX12_formattedByte_12 (by decide +kernel) ?_
  refine tr_isub dX12_formattedByte_13 ?_
  refine tr_i2l dX12_formattedByte_14 ?_
  refine tr_c_i (ms_cS (rest := []) (al := [.long l1.toInt64, .long 0, .long (((ms_i s1 l0 25) - 1).toInt64)]) (sp_X12_inRange G hG (d - 1) (by omega) s1 l1.toInt64 0 (((ms_i s1 l0 25) - 1).toInt64)) kl_X12_110 fs_X12_inRange dX12_formattedByte_15 (show _ = some 3 by decide +kernel) (by omega) (Nat.le_of_ble_eq_true rfl) (by decide) (by decide)) (fun v2 => ?_)
  refine tr_ifeq (o := none) (tgt := 30) dX12_formattedByte_18 (by decide) ?_ ?_
  · refine tr_iconst (v := (-1)) dX12_formattedByte_30 (by decide +kernel) ?_
    exact tr_iret rfl rfl (by decide) (by decide) dX12_formattedByte_31
  · refine tr_aload_n (i := 0) dX12_formattedByte_21 rfl ?_
    refine tr_getR 12 h0 fl_X12_59 (by decide +kernel) dX12_formattedByte_22 ?_
    refine tr_iload_n (i := 1) dX12_formattedByte_25 rfl ?_
    refine tr_ald (rk_12_24 h0) dX12_formattedByte_26 (fun v3 => ?_)
    refine tr_goto (tgt := 31) dX12_formattedByte_27 (by decide) ?_
    exact tr_iret rfl rfl (by decide) (by decide) dX12_formattedByte_31
theorem dX12_undoCount_0 : decode cX12_undoCount 0 = .ok (.aload_n 0, 1) := by decide +kernel
theorem dX12_undoCount_1 : decode cX12_undoCount 1 = .ok (.iconst 0, 1) := by decide +kernel
theorem dX12_undoCount_2 : decode cX12_undoCount 2 = .ok (.putfield 107, 3) := by decide +kernel
theorem dX12_undoCount_5 : decode cX12_undoCount 5 = .ok (.aload_n 0, 1) := by decide +kernel
theorem dX12_undoCount_6 : decode cX12_undoCount 6 = .ok (.getfield 349, 3) := by decide +kernel
theorem dX12_undoCount_9 : decode cX12_undoCount 9 = .ok (.ireturn, 1) := by decide +kernel
set_option maxRecDepth 100000 in
theorem sp_X12_undoCount (G : MG) (hG : (g_l G).stackTraces = false) (d : Nat) (hd : 0 ≤ d)   (σ : MsSt) (l0 : Nat) (h0 : ms_kd l0 = 13) : MsSpec G mX12_undoCount d 0 0 [.ref l0] σ ms_wi (f_X12_undoCount σ l0) := by
  refine ms_start (by decide +kernel) rfl rfl (Nat.le_of_ble_eq_true rfl) ?_
  show TrO G mX12_undoCount d 0 0 0 0 ms_wi 0 [(0, .ref l0)] [] σ (ms_nm (ms_si σ l0 7 0) fun s1 => some ((ms_i s1 l0 6), s1))
  refine tr_aload_n (i := 0) dX12_undoCount_0 rfl ?_
  refine tr_iconst (v := 0) dX12_undoCount_1 (by decide +kernel) ?_
  refine tr_putI 12 h0 fl_X12_107 (by decide +kernel) dX12_undoCount_2 ?_
  refine ms_ltS (fun s1 => ?_)
  refine tr_aload_n (i := 0) dX12_undoCount_5 rfl ?_
  refine tr_getI 12 h0 fl_X12_349 (by decide +kernel) dX12_undoCount_6 ?_
  exact tr_iret rfl rfl (by decide) (by decide) dX12_undoCount_9
theorem dX12_undo_0 : decode cX12_undo 0 = .ok (.aload_n 0, 1) := by decide +kernel
theorem dX12_undo_1 : decode cX12_undo 1 = .ok (.iconst 0, 1) := by decide +kernel
theorem dX12_undo_2 : decode cX12_undo 2 = .ok (.putfield 107, 3) := by decide +kernel
theorem dX12_undo_5 : decode cX12_undo 5 = .ok (.aload_n 0, 1) := by decide +kernel
theorem dX12_undo_6 : decode cX12_undo 6 = .ok (.getfield 349, 3) := by decide +kernel
theorem dX12_undo_9 : decode cX12_undo 9 = .ok (.ifCond .ne 5, 3) := by decide +kernel
theorem dX12_undo_12 : decode cX12_undo 12 = .ok (.iconst (-1), 1) := by decide +kernel
theorem dX12_undo_13 : decode cX12_undo 13 = .ok (.ireturn, 1) := by decide +kernel
theorem dX12_undo_14 : decode cX12_undo 14 = .ok (.aload_n 0, 1) := by decide +kernel
theorem dX12_undo_15 : decode cX12_undo 15 = .ok (.dup, 1) := by decide +kernel
theorem dX12_undo_16 : decode cX12_undo 16 = .ok (.getfield 349, 3) := by decide +kernel
theorem dX12_undo_19 : decode cX12_undo 19 = .ok (.iconst 1, 1) := by decide +kernel
theorem dX12_undo_20 : decode cX12_undo 20 = .ok (.isub, 1) := by decide +kernel
theorem dX12_undo_21 : decode cX12_undo 21 = .ok (.putfield 349, 3) := by decide +kernel
theorem dX12_undo_24 : decode cX12_undo 24 = .ok (.aload_n 0, 1) := by decide +kernel
theorem dX12_undo_25 : decode cX12_undo 25 = .ok (.getfield 19, 3) := by decide +kernel
theorem dX12_undo_28 : decode cX12_undo 28 = .ok (.aload_n 0, 1) := by decide +kernel
theorem dX12_undo_29 : decode cX12_undo 29 = .ok (.getfield 349, 3) := by decide +kernel
theorem dX12_undo_32 : decode cX12_undo 32 = .ok (.aload_n 0, 1) := by decide +kernel
theorem dX12_undo_33 : decode cX12_undo 33 = .ok (.getfield 9, 3) := by decide +kernel
theorem dX12_undo_36 : decode cX12_undo 36 = .ok (.iconst 0, 1) := by decide +kernel
theorem dX12_undo_37 : decode cX12_undo 37 = .ok (.invokestatic 352, 3) := by decide +kernel
theorem dX12_undo_40 : decode cX12_undo 40 = .ok (.aload_n 0, 1) := by decide +kernel
theorem dX12_undo_41 : decode cX12_undo 41 = .ok (.getfield 349, 3) := by decide +kernel
theorem dX12_undo_44 : decode cX12_undo 44 = .ok (.ireturn, 1) := by decide +kernel
set_option maxRecDepth 100000 in
theorem sp_X12_undo (G : MG) (hG : (g_l G).stackTraces = false) (d : Nat) (hd : 1 ≤ d)   (σ : MsSt) (l0 : Nat) (h0 : ms_kd l0 = 13) : MsSpec G mX12_undo d 0 0 [.ref l0] σ ms_wi (f_X12_undo σ l0) := by
  refine ms_start (by decide +kernel) rfl rfl (Nat.le_of_ble_eq_true rfl) ?_
  show TrO G mX12_undo d 0 0 0 0 ms_wi 0 [(0, .ref l0)] [] σ (ms_nm (ms_si σ l0 7 0) fun s1 => if (ms_i s1 l0 6) = 0 then some ((-1), s1) else ms_nm (ms_si s1 l0 6 ((ms_i s1 l0 6) - 1)) fun s2 => (f_X12_copy s2 (ms_rf l0 3) (ms_i s2 l0 6) (ms_rf l0 0) 0).bind fun s3 => some ((ms_i s3 l0 6), s3))
  refine tr_aload_n (i := 0) dX12_undo_0 rfl ?_
  refine tr_iconst (v := 0) dX12_undo_1 (by decide +kernel) ?_
  refine tr_putI 12 h0 fl_X12_107 (by decide +kernel) dX12_undo_2 ?_
  refine ms_ltS (fun s1 => ?_)
  refine tr_aload_n (i := 0) dX12_undo_5 rfl ?_
  refine tr_getI 12 h0 fl_X12_349 (by decide +kernel) dX12_undo_6 ?_
  refine tr_ifne (o := none) (tgt := 14) dX12_undo_9 (by decide) ?_ ?_
  · refine tr_aload_n (i := 0) dX12_undo_14 rfl ?_
    refine tr_dup dX12_undo_15 rfl ?_
    refine tr_getI 12 h0 fl_X12_349 (by decide +kernel) dX12_undo_16 ?_
    refine tr_iconst (v := 1) dX12_undo_19 (by decide +kernel) ?_
    refine tr_isub dX12_undo_20 ?_
    refine tr_putI 12 h0 fl_X12_349 (by decide +kernel) dX12_undo_21 ?_
    refine ms_ltS (fun s2 => ?_)
    refine tr_aload_n (i := 0) dX12_undo_24 rfl ?_
    refine tr_getR 12 h0 fl_X12_19 (by decide +kernel) dX12_undo_25 ?_
    refine tr_aload_n (i := 0) dX12_undo_28 rfl ?_
    refine tr_getI 12 h0 fl_X12_349 (by decide +kernel) dX12_undo_29 ?_
    refine tr_aload_n (i := 0) dX12_undo_32 rfl ?_
    refine tr_getR 12 h0 fl_X12_9 (by decide +kernel) dX12_undo_33 ?_
    refine tr_iconst (v := 0) dX12_undo_36 (by decide +kernel) ?_
    refine tr_c_wv (ms_cS (rest := []) (al := [.ref (ms_rf l0 3), .int (ms_i s2 l0 6), .ref (ms_rf l0 0), .int 0]) (sp_X12_copy G hG (d - 1) (by omega) s2 (ms_rf l0 3) (ms_i s2 l0 6) (ms_rf l0 0) 0 (rk_12_3 h0) (rk_12_0 h0)) kl_X12_352 fs_X12_copy dX12_undo_37 (show _ = some 4 by decide +kernel) (by omega) (Nat.le_of_ble_eq_true rfl) (by decide) (by decide)) (fun s3 => ?_)
    refine tr_aload_n (i := 0) dX12_undo_40 rfl ?_
    refine tr_getI 12 h0 fl_X12_349 (by decide +kernel) dX12_undo_41 ?_
    exact tr_iret rfl rfl (by decide) (by decide) dX12_undo_44
  · refine tr_iconst (v := (-1)) dX12_undo_12 (by decide +kernel) ?_
    exact tr_iret rfl rfl (by decide) (by decide) dX12_undo_13
theorem dX12_saveSnapshot_0 : decode cX12_saveSnapshot 0 = .ok (.aload_n 0, 1) := by decide +kernel
theorem dX12_saveSnapshot_1 : decode cX12_saveSnapshot 1 = .ok (.iconst 0, 1) := by decide +kernel
theorem dX12_saveSnapshot_2 : decode cX12_saveSnapshot 2 = .ok (.putfield 107, 3) := by decide +kernel
theorem dX12_saveSnapshot_5 : decode cX12_saveSnapshot 5 = .ok (.aload_n 0, 1) := by decide +kernel
theorem dX12_saveSnapshot_6 : decode cX12_saveSnapshot 6 = .ok (.getfield 9, 3) := by decide +kernel
theorem dX12_saveSnapshot_9 : decode cX12_saveSnapshot 9 = .ok (.iconst 0, 1) := by decide +kernel
theorem dX12_saveSnapshot_10 : decode cX12_saveSnapshot 10 = .ok (.aload_n 0, 1) := by decide +kernel
theorem dX12_saveSnapshot_11 : decode cX12_saveSnapshot 11 = .ok (.getfield 16, 3) := by decide +kernel
theorem dX12_saveSnapshot_14 : decode cX12_saveSnapshot 14 = .ok (.iconst 0, 1) := by decide +kernel
theorem dX12_saveSnapshot_15 : decode cX12_saveSnapshot 15 = .ok (.invokestatic 352, 3) := by decide +kernel
theorem dX12_saveSnapshot_18 : decode cX12_saveSnapshot 18 = .ok (.aload_n 0, 1) := by decide +kernel
theorem dX12_saveSnapshot_19 : decode cX12_saveSnapshot 19 = .ok (.iconst 1, 1) := by decide +kernel
theorem dX12_saveSnapshot_20 : decode cX12_saveSnapshot 20 = .ok (.putfield 356, 3) := by decide +kernel
theorem dX12_saveSnapshot_23 : decode cX12_saveSnapshot 23 = .ok (.return_, 1) := by decide +kernel
set_option maxRecDepth 100000 in
theorem sp_X12_saveSnapshot (G : MG) (hG : (g_l G).stackTraces = false) (d : Nat) (hd : 1 ≤ d)   (σ : MsSt) (l0 : Nat) (h0 : ms_kd l0 = 13) : MsSpec G mX12_saveSnapshot d 0 0 [.ref l0] σ ms_wv (f_X12_saveSnapshot σ l0) := by
  refine ms_start (by decide +kernel) rfl rfl (Nat.le_of_ble_eq_true rfl) ?_
  show TrO G mX12_saveSnapshot d 0 0 0 0 ms_wv 0 [(0, .ref l0)] [] σ (ms_nm (ms_si σ l0 7 0) fun s1 => (f_X12_copy s1 (ms_rf l0 0) 0 (ms_rf l0 2) 0).bind fun s2 => ms_nm (ms_si s2 l0 8 1) fun s3 => some s3)
  refine tr_aload_n (i := 0) dX12_saveSnapshot_0 rfl ?_
  refine tr_iconst (v := 0) dX12_saveSnapshot_1 (by decide +kernel) ?_
  refine tr_putI 12 h0 fl_X12_107 (by decide +kernel) dX12_saveSnapshot_2 ?_
  refine ms_ltS (fun s1 => ?_)
  refine tr_aload_n (i := 0) dX12_saveSnapshot_5 rfl ?_
  refine tr_getR 12 h0 fl_X12_9 (by decide +kernel) dX12_saveSnapshot_6 ?_
  refine tr_iconst (v := 0) dX12_saveSnapshot_9 (by decide +kernel) ?_
  refine tr_aload_n (i := 0) dX12_saveSnapshot_10 rfl ?_
  refine tr_getR 12 h0 fl_X12_16 (by decide +kernel) dX12_saveSnapshot_11 ?_
  refine tr_iconst (v := 0) dX12_saveSnapshot_14 (by decide +kernel) ?_
  refine tr_c_wv (ms_cS (rest := []) (al := [.ref (ms_rf l0 0), .int 0, .ref (ms_rf l0 2), .int 0]) (sp_X12_copy G hG (d - 1) (by omega) s1 (ms_rf l0 0) 0 (ms_rf l0 2) 0 (rk_12_0 h0) (rk_12_2 h0)) kl_X12_352 fs_X12_copy dX12_saveSnapshot_15 (show _ = some 4 by decide +kernel) (by omega) (Nat.le_of_ble_eq_true rfl) (by decide) (by decide)) (fun s2 => ?_)
  refine tr_aload_n (i := 0) dX12_saveSnapshot_18 rfl ?_
  refine tr_iconst (v := 1) dX12_saveSnapshot_19 (by decide +kernel) ?_
  refine tr_putB 12 h0 fl_X12_356 (by decide +kernel) (by decide) dX12_saveSnapshot_20 ?_
  refine ms_ltS (fun s3 => ?_)
  exact tr_vret rfl rfl (by decide) (by decide) dX12_saveSnapshot_23
theorem dX12_restoreSnapshot_0 : decode cX12_restoreSnapshot 0 = .ok (.aload_n 0, 1) := by decide +kernel
theorem dX12_restoreSnapshot_1 : decode cX12_restoreSnapshot 1 = .ok (.iconst 0, 1) := by decide +kernel
theorem dX12_restoreSnapshot_2 : decode cX12_restoreSnapshot 2 = .ok (.putfield 107, 3) := by decide +kernel
theorem dX12_restoreSnapshot_5 : decode cX12_restoreSnapshot 5 = .ok (.aload_n 0, 1) := by decide +kernel
theorem dX12_restoreSnapshot_6 : decode cX12_restoreSnapshot 6 = .ok (.getfield 356, 3) := by decide +kernel
theorem dX12_restoreSnapshot_9 : decode cX12_restoreSnapshot 9 = .ok (.ifCond .ne 5, 3) := by decide +kernel
theorem dX12_restoreSnapshot_12 : decode cX12_restoreSnapshot 12 = .ok (.iconst 0, 1) := by decide +kernel
theorem dX12_restoreSnapshot_13 : decode cX12_restoreSnapshot 13 = .ok (.ireturn, 1) := by decide +kernel
theorem dX12_restoreSnapshot_14 : decode cX12_restoreSnapshot 14 = .ok (.aload_n 0, 1) := by decide +kernel
theorem dX12_restoreSnapshot_15 : decode cX12_restoreSnapshot 15 = .ok (.getfield 16, 3) := by decide +kernel
theorem dX12_restoreSnapshot_18 : decode cX12_restoreSnapshot 18 = .ok (.iconst 0, 1) := by decide +kernel
theorem dX12_restoreSnapshot_19 : decode cX12_restoreSnapshot 19 = .ok (.aload_n 0, 1) := by decide +kernel
theorem dX12_restoreSnapshot_20 : decode cX12_restoreSnapshot 20 = .ok (.getfield 9, 3) := by decide +kernel
theorem dX12_restoreSnapshot_23 : decode cX12_restoreSnapshot 23 = .ok (.iconst 0, 1) := by decide +kernel
theorem dX12_restoreSnapshot_24 : decode cX12_restoreSnapshot 24 = .ok (.invokestatic 352, 3) := by decide +kernel
theorem dX12_restoreSnapshot_27 : decode cX12_restoreSnapshot 27 = .ok (.aload_n 0, 1) := by decide +kernel
theorem dX12_restoreSnapshot_28 : decode cX12_restoreSnapshot 28 = .ok (.iconst 0, 1) := by decide +kernel
theorem dX12_restoreSnapshot_29 : decode cX12_restoreSnapshot 29 = .ok (.putfield 349, 3) := by decide +kernel
theorem dX12_restoreSnapshot_32 : decode cX12_restoreSnapshot 32 = .ok (.iconst 1, 1) := by decide +kernel
theorem dX12_restoreSnapshot_33 : decode cX12_restoreSnapshot 33 = .ok (.ireturn, 1) := by decide +kernel
set_option maxRecDepth 100000 in
theorem sp_X12_restoreSnapshot (G : MG) (hG : (g_l G).stackTraces = false) (d : Nat) (hd : 1 ≤ d)   (σ : MsSt) (l0 : Nat) (h0 : ms_kd l0 = 13) : MsSpec G mX12_restoreSnapshot d 0 0 [.ref l0] σ ms_wi (f_X12_restoreSnapshot σ l0) := by
  refine ms_start (by decide +kernel) rfl rfl (Nat.le_of_ble_eq_true rfl) ?_
  show TrO G mX12_restoreSnapshot d 0 0 0 0 ms_wi 0 [(0, .ref l0)] [] σ (ms_nm (ms_si σ l0 7 0) fun s1 => if (ms_i s1 l0 8) = 0 then some (0, s1) else (f_X12_copy s1 (ms_rf l0 2) 0 (ms_rf l0 0) 0).bind fun s2 => ms_nm (ms_si s2 l0 6 0) fun s3 => some (1, s3))
  refine tr_aload_n (i := 0) dX12_restoreSnapshot_0 rfl ?_
  refine tr_iconst (v := 0) dX12_restoreSnapshot_1 (by decide +kernel) ?_
  refine tr_putI 12 h0 fl_X12_107 (by decide +kernel) dX12_restoreSnapshot_2 ?_
  refine ms_ltS (fun s1 => ?_)
  refine tr_aload_n (i := 0) dX12_restoreSnapshot_5 rfl ?_
  refine tr_getI 12 h0 fl_X12_356 (by decide +kernel) dX12_restoreSnapshot_6 ?_
  refine tr_ifne (o := none) (tgt := 14) dX12_restoreSnapshot_9 (by decide) ?_ ?_
  · refine tr_aload_n (i := 0) dX12_restoreSnapshot_14 rfl ?_
    refine tr_getR 12 h0 fl_X12_16 (by decide +kernel) dX12_restoreSnapshot_15 ?_
    refine tr_iconst (v := 0) dX12_restoreSnapshot_18 (by decide +kernel) ?_
    refine tr_aload_n (i := 0) dX12_restoreSnapshot_19 rfl ?_
    refine tr_getR 12 h0 fl_X12_9 (by decide +kernel) dX12_restoreSnapshot_20 ?_
    refine tr_iconst (v := 0) dX12_restoreSnapshot_23 (by decide +kernel) ?_
    refine tr_c_wv (ms_cS (rest := []) (al := [.ref (ms_rf l0 2), .int 0, .ref (ms_rf l0 0), .int 0]) (sp_X12_copy G hG (d - 1) (by omega) s1 (ms_rf l0 2) 0 (ms_rf l0 0) 0 (rk_12_2 h0) (rk_12_0 h0)) kl_X12_352 fs_X12_copy dX12_restoreSnapshot_24 (show _ = some 4 by decide +kernel) (by omega) (Nat.le_of_ble_eq_true rfl) (by decide) (by decide)) (fun s2 => ?_)
    refine tr_aload_n (i := 0) dX12_restoreSnapshot_27 rfl ?_
    refine tr_iconst (v := 0) dX12_restoreSnapshot_28 (by decide +kernel) ?_
    refine tr_putI 12 h0 fl_X12_349 (by decide +kernel) dX12_restoreSnapshot_29 ?_
    refine ms_ltS (fun s3 => ?_)
    refine tr_iconst (v := 1) dX12_restoreSnapshot_32 (by decide +kernel) ?_
    exact tr_zret rfl (by decide +kernel) rfl (by decide) (by decide) dX12_restoreSnapshot_33
  · refine tr_iconst (v := 0) dX12_restoreSnapshot_12 (by decide +kernel) ?_
    exact tr_zret rfl (by decide +kernel) rfl (by decide) (by decide) dX12_restoreSnapshot_13
theorem dX12_feed_0 : decode cX12_feed 0 = .ok (.aload_n 0, 1) := by decide +kernel
theorem dX12_feed_1 : decode cX12_feed 1 = .ok (.iconst 0, 1) := by decide +kernel
theorem dX12_feed_2 : decode cX12_feed 2 = .ok (.putfield 107, 3) := by decide +kernel
theorem dX12_feed_5 : decode cX12_feed 5 = .ok (.aload_n 0, 1) := by decide +kernel
theorem dX12_feed_6 : decode cX12_feed 6 = .ok (.getfield 360, 3) := by decide +kernel
theorem dX12_feed_9 : decode cX12_feed 9 = .ok (.bipush 20, 2) := by decide +kernel
theorem dX12_feed_11 : decode cX12_feed 11 = .ok (.iadd, 1) := by decide +kernel
theorem dX12_feed_12 : decode cX12_feed 12 = .ok (.sipush 900, 3) := by decide +kernel
theorem dX12_feed_15 : decode cX12_feed 15 = .ok (.if_icmp .le 5, 3) := by decide +kernel
theorem dX12_feed_18 : decode cX12_feed 18 = .ok (.iconst (-1), 1) := by decide +kernel
theorem dX12_feed_19 : decode cX12_feed 19 = .ok (.ireturn, 1) := by decide +kernel
theorem dX12_feed_20 : decode cX12_feed 20 = .ok (.iconst 0, 1) := by decide +kernel
theorem dX12_feed_21 : decode cX12_feed 21 = .ok (.istore 6, 2) := by decide +kernel
theorem dX12_feed_23 : decode cX12_feed 23 = .ok (.iload 6, 2) := by decide +kernel
theorem dX12_feed_25 : decode cX12_feed 25 = .ok (.bipush 20, 2) := by decide +kernel
theorem dX12_feed_27 : decode cX12_feed 27 = .ok (.if_icmp .ge 93, 3) := by decide +kernel
theorem dX12_feed_30 : decode cX12_feed 30 = .ok (.iload 6, 2) := by decide +kernel
theorem dX12_feed_32 : decode cX12_feed 32 = .ok (.iconst 4, 1) := by decide +kernel
theorem dX12_feed_33 : decode cX12_feed 33 = .ok (.if_icmp .ge 7, 3) := by decide +kernel
theorem dX12_feed_36 : decode cX12_feed 36 = .ok (.iload_n 1, 1) := by decide +kernel
theorem dX12_feed_37 : decode cX12_feed 37 = .ok (.goto 39, 3) := by decide +kernel
theorem dX12_feed_40 : decode cX12_feed 40 = .ok (.iload 6, 2) := by decide +kernel
theorem dX12_feed_42 : decode cX12_feed 42 = .ok (.bipush 8, 2) := by decide +kernel
theorem dX12_feed_44 : decode cX12_feed 44 = .ok (.if_icmp .ge 7, 3) := by decide +kernel
theorem dX12_feed_47 : decode cX12_feed 47 = .ok (.iload_n 2, 1) := by decide +kernel
theorem dX12_feed_48 : decode cX12_feed 48 = .ok (.goto 28, 3) := by decide +kernel
theorem dX12_feed_51 : decode cX12_feed 51 = .ok (.iload 6, 2) := by decide +kernel
theorem dX12_feed_53 : decode cX12_feed 53 = .ok (.bipush 12, 2) := by decide +kernel
theorem dX12_feed_55 : decode cX12_feed 55 = .ok (.if_icmp .ge 7, 3) := by decide +kernel
theorem dX12_feed_58 : decode cX12_feed 58 = .ok (.iload_n 3, 1) := by decide +kernel
theorem dX12_feed_59 : decode cX12_feed 59 = .ok (.goto 17, 3) := by decide +kernel
theorem dX12_feed_62 : decode cX12_feed 62 = .ok (.iload 6, 2) := by decide +kernel
theorem dX12_feed_64 : decode cX12_feed 64 = .ok (.bipush 16, 2) := by decide +kernel
theorem dX12_feed_66 : decode cX12_feed 66 = .ok (.if_icmp .ge 8, 3) := by decide +kernel
theorem dX12_feed_69 : decode cX12_feed 69 = .ok (.iload 4, 2) := by decide +kernel
theorem dX12_feed_71 : decode cX12_feed 71 = .ok (.goto 5, 3) := by decide +kernel
theorem dX12_feed_74 : decode cX12_feed 74 = .ok (.iload 5, 2) := by decide +kernel
theorem dX12_feed_76 : decode cX12_feed 76 = .ok (.istore 7, 2) := by decide +kernel
theorem dX12_feed_78 : decode cX12_feed 78 = .ok (.aload_n 0, 1) := by decide +kernel
theorem dX12_feed_79 : decode cX12_feed 79 = .ok (.getfield 62, 3) := by decide +kernel
theorem dX12_feed_82 : decode cX12_feed 82 = .ok (.aload_n 0, 1) := by decide +kernel
theorem dX12_feed_83 : decode cX12_feed 83 = .ok (.getfield 360, 3) := by decide +kernel
theorem dX12_feed_86 : decode cX12_feed 86 = .ok (.iload 7, 2) := by decide +kernel
theorem dX12_feed_88 : decode cX12_feed 88 = .ok (.bipush 24, 2) := by decide +kernel
theorem dX12_feed_90 : decode cX12_feed 90 = .ok (.bipush 8, 2) := by decide +kernel
theorem dX12_feed_92 : decode cX12_feed 92 = .ok (.iload 6, 2) := by decide +kernel
theorem dX12_feed_94 : decode cX12_feed 94 = .ok (.iconst 4, 1) := by decide +kernel
theorem dX12_feed_95 : decode cX12_feed 95 = .ok (.irem, 1) := by decide +kernel
theorem dX12_feed_96 : decode cX12_feed 96 = .ok (.imul, 1) := by decide +kernel
theorem dX12_feed_97 : decode cX12_feed 97 = .ok (.isub, 1) := by decide +kernel
theorem dX12_feed_98 : decode cX12_feed 98 = .ok (.ishr, 1) := by decide +kernel
theorem dX12_feed_99 : decode cX12_feed 99 = .ok (.sipush 255, 3) := by decide +kernel
theorem dX12_feed_102 : decode cX12_feed 102 = .ok (.iand, 1) := by decide +kernel
theorem dX12_feed_103 : decode cX12_feed 103 = .ok (.iastore, 1) := by decide +kernel
theorem dX12_feed_104 : decode cX12_feed 104 = .ok (.aload_n 0, 1) := by decide +kernel
theorem dX12_feed_105 : decode cX12_feed 105 = .ok (.dup, 1) := by decide +kernel
theorem dX12_feed_106 : decode cX12_feed 106 = .ok (.getfield 360, 3) := by decide +kernel
theorem dX12_feed_109 : decode cX12_feed 109 = .ok (.iconst 1, 1) := by decide +kernel
theorem dX12_feed_110 : decode cX12_feed 110 = .ok (.iadd, 1) := by decide +kernel
theorem dX12_feed_111 : decode cX12_feed 111 = .ok (.putfield 360, 3) := by decide +kernel
theorem dX12_feed_114 : decode cX12_feed 114 = .ok (.iinc 6 1, 3) := by decide +kernel
theorem dX12_feed_117 : decode cX12_feed 117 = .ok (.goto (-94), 3) := by decide +kernel
theorem dX12_feed_120 : decode cX12_feed 120 = .ok (.aload_n 0, 1) := by decide +kernel
theorem dX12_feed_121 : decode cX12_feed 121 = .ok (.getfield 360, 3) := by decide +kernel
theorem dX12_feed_124 : decode cX12_feed 124 = .ok (.ireturn, 1) := by decide +kernel
set_option maxRecDepth 100000 in
theorem t_X12_feed_76 (G : MG) (hG : (g_l G).stackTraces = false) (d : Nat) (hd : 0 ≤ d)   (k23 : MsSt → Nat → Int32 → Int32 → Int32 → Int32 → Int32 → Int32 → Option (Int32 × MsSt)) (hk23 : ∀ (s : MsSt) (x1 : Nat) (x2 : Int32) (x3 : Int32) (x4 : Int32) (x5 : Int32) (x6 : Int32) (x7 : Int32), ms_kd x1 = 13 → TrO G mX12_feed d 0 0 0 0 ms_wi 23 [(0, .ref x1), (1, .int x2), (2, .int x3), (3, .int x4), (4, .int x5), (5, .int x6), (6, .int x7)] [] s (k23 s x1 x2 x3 x4 x5 x6 x7)) (σ : MsSt) (l0 : Nat) (l1 : Int32) (l2 : Int32) (l3 : Int32) (l4 : Int32) (l5 : Int32) (l6 : Int32) (t0 : Int32) (h0 : ms_kd l0 = 13) : TrO G mX12_feed d 0 0 0 0 ms_wi 76 [(0, .ref l0), (1, .int l1), (2, .int l2), (3, .int l3), (4, .int l4), (5, .int l5), (6, .int l6)] [.int t0] σ (f_X12_feed_76 k23 σ l0 l1 l2 l3 l4 l5 l6 t0) := by
  show TrO G mX12_feed d 0 0 0 0 ms_wi 76 [(0, .ref l0), (1, .int l1), (2, .int l2), (3, .int l3), (4, .int l4), (5, .int l5), (6, .int l6)] [.int t0] σ ((ms_irem l6 4).bind fun v2 => (ms_ast σ (ms_rf l0 26) (ms_i σ l0 27) ((t0 >>> ((24 - (8 * v2)) &&& 31)) &&& 255)).bind fun s3 => ms_nm (ms_si s3 l0 27 ((ms_i s3 l0 27) + 1)) fun s4 => k23 s4 l0 l1 l2 l3 l4 l5 (l6 + 1))
  refine tr_istore (lv' := [(0, .ref l0), (1, .int l1), (2, .int l2), (3, .int l3), (4, .int l4), (5, .int l5), (6, .int l6), (7, .int t0)]) [1, 2, 3, 4, 5, 6, 7, 0] dX12_feed_76 (by decide) rfl ?_
  refine tr_aload_n (i := 0) dX12_feed_78 rfl ?_
  refine tr_getR 12 h0 fl_X12_62 (by decide +kernel) dX12_feed_79 ?_
  refine tr_aload_n (i := 0) dX12_feed_82 rfl ?_
  refine tr_getI 12 h0 fl_X12_360 (by decide +kernel) dX12_feed_83 ?_
  refine tr_iload (i := 7) dX12_feed_86 rfl ?_
  refine tr_bipush (v := 24) dX12_feed_88 (by decide +kernel) ?_
  refine tr_bipush (v := 8) dX12_feed_90 (by decide +kernel) ?_
  refine tr_iload (i := 6) dX12_feed_92 rfl ?_
  refine tr_iconst (v := 4) dX12_feed_94 (by decide +kernel) ?_
  refine tr_irem (o := none) dX12_feed_95 (fun v2 => ?_)
  refine tr_imul dX12_feed_96 ?_
  refine tr_isub dX12_feed_97 ?_
  refine tr_ishr dX12_feed_98 ?_
  refine tr_sipush (v := 255) dX12_feed_99 (by decide +kernel) ?_
  refine tr_iand dX12_feed_102 ?_
  refine tr_ast (rk_12_26 h0) dX12_feed_103 (fun s3 => ?_)
  refine tr_aload_n (i := 0) dX12_feed_104 rfl ?_
  refine tr_dup dX12_feed_105 rfl ?_
  refine tr_getI 12 h0 fl_X12_360 (by decide +kernel) dX12_feed_106 ?_
  refine tr_iconst (v := 1) dX12_feed_109 (by decide +kernel) ?_
  refine tr_iadd dX12_feed_110 ?_
  refine tr_putI 12 h0 fl_X12_360 (by decide +kernel) dX12_feed_111 ?_
  refine ms_ltS (fun s4 => ?_)
  refine tr_iinc (k := 6) (v := (l6 + 1)) (lv' := [(0, .ref l0), (1, .int l1), (2, .int l2), (3, .int l3), (4, .int l4), (5, .int l5), (6, .int (l6 + 1))]) [1, 2, 3, 4, 5, 6, 0] dX12_feed_114 rfl rfl (by decide) rfl ?_
  refine tr_goto (tgt := 23) dX12_feed_117 (by decide) ?_
  exact hk23 s4 l0 l1 l2 l3 l4 l5 (l6 + 1) h0
set_option maxRecDepth 100000 in
theorem t_X12_feed_23 (G : MG) (hG : (g_l G).stackTraces = false) (d : Nat) (hd : 0 ≤ d)    : ∀ (n : Nat) (σ : MsSt) (l0 : Nat) (l1 : Int32) (l2 : Int32) (l3 : Int32) (l4 : Int32) (l5 : Int32) (l6 : Int32) (h0 : ms_kd l0 = 13), TrO G mX12_feed d 0 0 0 0 ms_wi 23 [(0, .ref l0), (1, .int l1), (2, .int l2), (3, .int l3), (4, .int l4), (5, .int l5), (6, .int l6)] [] σ (f_X12_feed_23 n σ l0 l1 l2 l3 l4 l5 l6) := by
  intro n
  induction n with
  | zero => exact fun _ _ _ _ _ _ _ _ _ => tr_none
  | succ n ih =>
    intro σ l0 l1 l2 l3 l4 l5 l6 h0
    show TrO G mX12_feed d 0 0 0 0 ms_wi 23 [(0, .ref l0), (1, .int l1), (2, .int l2), (3, .int l3), (4, .int l4), (5, .int l5), (6, .int l6)] [] σ (if l6 < 20 then if l6 < 4 then f_X12_feed_76 (f_X12_feed_23 n) σ l0 l1 l2 l3 l4 l5 l6 l1 else if l6 < 8 then f_X12_feed_76 (f_X12_feed_23 n) σ l0 l1 l2 l3 l4 l5 l6 l2 else if l6 < 12 then f_X12_feed_76 (f_X12_feed_23 n) σ l0 l1 l2 l3 l4 l5 l6 l3 else if l6 < 16 then f_X12_feed_76 (f_X12_feed_23 n) σ l0 l1 l2 l3 l4 l5 l6 l4 else f_X12_feed_76 (f_X12_feed_23 n) σ l0 l1 l2 l3 l4 l5 l6 l5 else some ((ms_i σ l0 27), σ))
    refine tr_iload (i := 6) dX12_feed_23 rfl ?_
    refine tr_bipush (v := 20) dX12_feed_25 (by decide +kernel) ?_
    refine tr_icge (o := none) (tgt := 120) dX12_feed_27 (by decide) ?_ ?_
    · refine tr_aload_n (i := 0) dX12_feed_120 rfl ?_
      refine tr_getI 12 h0 fl_X12_360 (by decide +kernel) dX12_feed_121 ?_
      exact tr_iret rfl rfl (by decide) (by decide) dX12_feed_124
    · refine tr_iload (i := 6) dX12_feed_30 rfl ?_
      refine tr_iconst (v := 4) dX12_feed_32 (by decide +kernel) ?_
      refine tr_icge (o := none) (tgt := 40) dX12_feed_33 (by decide) ?_ ?_
      · refine tr_iload (i := 6) dX12_feed_40 rfl ?_
        refine tr_bipush (v := 8) dX12_feed_42 (by decide +kernel) ?_
        refine tr_icge (o := none) (tgt := 51) dX12_feed_44 (by decide) ?_ ?_
        · refine tr_iload (i := 6) dX12_feed_51 rfl ?_
          refine tr_bipush (v := 12) dX12_feed_53 (by decide +kernel) ?_
          refine tr_icge (o := none) (tgt := 62) dX12_feed_55 (by decide) ?_ ?_
          · refine tr_iload (i := 6) dX12_feed_62 rfl ?_
            refine tr_bipush (v := 16) dX12_feed_64 (by decide +kernel) ?_
            refine tr_icge (o := none) (tgt := 74) dX12_feed_66 (by decide) ?_ ?_
            · refine tr_iload (i := 5) dX12_feed_74 rfl ?_
              exact t_X12_feed_76 G hG d hd (f_X12_feed_23 n) (fun s y0 y1 y2 y3 y4 y5 y6 g0 => ih s y0 y1 y2 y3 y4 y5 y6 g0) σ l0 l1 l2 l3 l4 l5 l6 l5 h0
            · refine tr_iload (i := 4) dX12_feed_69 rfl ?_
              refine tr_goto (tgt := 76) dX12_feed_71 (by decide) ?_
              exact t_X12_feed_76 G hG d hd (f_X12_feed_23 n) (fun s y0 y1 y2 y3 y4 y5 y6 g0 => ih s y0 y1 y2 y3 y4 y5 y6 g0) σ l0 l1 l2 l3 l4 l5 l6 l4 h0
          · refine tr_iload_n (i := 3) dX12_feed_58 rfl ?_
            refine tr_goto (tgt := 76) dX12_feed_59 (by decide) ?_
            exact t_X12_feed_76 G hG d hd (f_X12_feed_23 n) (fun s y0 y1 y2 y3 y4 y5 y6 g0 => ih s y0 y1 y2 y3 y4 y5 y6 g0) σ l0 l1 l2 l3 l4 l5 l6 l3 h0
        · refine tr_iload_n (i := 2) dX12_feed_47 rfl ?_
          refine tr_goto (tgt := 76) dX12_feed_48 (by decide) ?_
          exact t_X12_feed_76 G hG d hd (f_X12_feed_23 n) (fun s y0 y1 y2 y3 y4 y5 y6 g0 => ih s y0 y1 y2 y3 y4 y5 y6 g0) σ l0 l1 l2 l3 l4 l5 l6 l2 h0
      · refine tr_iload_n (i := 1) dX12_feed_36 rfl ?_
        refine tr_goto (tgt := 76) dX12_feed_37 (by decide) ?_
        exact t_X12_feed_76 G hG d hd (f_X12_feed_23 n) (fun s y0 y1 y2 y3 y4 y5 y6 g0 => ih s y0 y1 y2 y3 y4 y5 y6 g0) σ l0 l1 l2 l3 l4 l5 l6 l1 h0
set_option maxRecDepth 100000 in
theorem sp_X12_feed (G : MG) (hG : (g_l G).stackTraces = false) (d : Nat) (hd : 0 ≤ d)   (σ : MsSt) (l0 : Nat) (l1 : Int32) (l2 : Int32) (l3 : Int32) (l4 : Int32) (l5 : Int32) (h0 : ms_kd l0 = 13) : MsSpec G mX12_feed d 0 0 [.ref l0, .int l1, .int l2, .int l3, .int l4, .int l5] σ ms_wi (f_X12_feed σ l0 l1 l2 l3 l4 l5) := by
  refine ms_start (by decide +kernel) rfl rfl (Nat.le_of_ble_eq_true rfl) ?_
  show TrO G mX12_feed d 0 0 0 0 ms_wi 0 [(0, .ref l0), (1, .int l1), (2, .int l2), (3, .int l3), (4, .int l4), (5, .int l5)] [] σ (ms_nm (ms_si σ l0 7 0) fun s1 => if 900 < ((ms_i s1 l0 27) + 20) then some ((-1), s1) else f_X12_feed_23 ms_fuel s1 l0 l1 l2 l3 l4 l5 0)
  refine tr_aload_n (i := 0) dX12_feed_0 rfl ?_
  refine tr_iconst (v := 0) dX12_feed_1 (by decide +kernel) ?_
  refine tr_putI 12 h0 fl_X12_107 (by decide +kernel) dX12_feed_2 ?_
  refine ms_ltS (fun s1 => ?_)
  refine tr_aload_n (i := 0) dX12_feed_5 rfl ?_
  refine tr_getI 12 h0 fl_X12_360 (by decide +kernel) dX12_feed_6 ?_
  refine tr_bipush (v := 20) dX12_feed_9 (by decide +kernel) ?_
  refine tr_iadd dX12_feed_11 ?_
  refine tr_sipush (v := 900) dX12_feed_12 (by decide +kernel) ?_
  refine tr_icle (o := none) (tgt := 20) dX12_feed_15 (by decide) ?_ ?_
  · refine tr_iconst (v := 0) dX12_feed_20 (by decide +kernel) ?_
    refine tr_istore (lv' := [(0, .ref l0), (1, .int l1), (2, .int l2), (3, .int l3), (4, .int l4), (5, .int l5), (6, .int 0)]) [1, 2, 3, 4, 5, 6, 0] dX12_feed_21 (by decide) rfl ?_
    exact t_X12_feed_23 G hG d hd ms_fuel s1 l0 l1 l2 l3 l4 l5 0 h0
  · refine tr_iconst (v := (-1)) dX12_feed_18 (by decide +kernel) ?_
    exact tr_iret rfl rfl (by decide) (by decide) dX12_feed_19
theorem dX12_errorPosition_0 : decode cX12_errorPosition 0 = .ok (.aload_n 0, 1) := by decide +kernel
theorem dX12_errorPosition_1 : decode cX12_errorPosition 1 = .ok (.iconst 0, 1) := by decide +kernel
theorem dX12_errorPosition_2 : decode cX12_errorPosition 2 = .ok (.putfield 107, 3) := by decide +kernel
theorem dX12_errorPosition_5 : decode cX12_errorPosition 5 = .ok (.aload_n 0, 1) := by decide +kernel
theorem dX12_errorPosition_6 : decode cX12_errorPosition 6 = .ok (.getfield 65, 3) := by decide +kernel
theorem dX12_errorPosition_9 : decode cX12_errorPosition 9 = .ok (.ireturn, 1) := by decide +kernel
set_option maxRecDepth 100000 in
theorem sp_X12_errorPosition (G : MG) (hG : (g_l G).stackTraces = false) (d : Nat) (hd : 0 ≤ d)   (σ : MsSt) (l0 : Nat) (h0 : ms_kd l0 = 13) : MsSpec G mX12_errorPosition d 0 0 [.ref l0] σ ms_wi (f_X12_errorPosition σ l0) := by
  refine ms_start (by decide +kernel) rfl rfl (Nat.le_of_ble_eq_true rfl) ?_
  show TrO G mX12_errorPosition d 0 0 0 0 ms_wi 0 [(0, .ref l0)] [] σ (ms_nm (ms_si σ l0 7 0) fun s1 => some ((ms_i s1 l0 34), s1))
  refine tr_aload_n (i := 0) dX12_errorPosition_0 rfl ?_
  refine tr_iconst (v := 0) dX12_errorPosition_1 (by decide +kernel) ?_
  refine tr_putI 12 h0 fl_X12_107 (by decide +kernel) dX12_errorPosition_2 ?_
  refine ms_ltS (fun s1 => ?_)
  refine tr_aload_n (i := 0) dX12_errorPosition_5 rfl ?_
  refine tr_getI 12 h0 fl_X12_65 (by decide +kernel) dX12_errorPosition_6 ?_
  exact tr_iret rfl rfl (by decide) (by decide) dX12_errorPosition_9
theorem dX12_byteAt_0 : decode cX12_byteAt 0 = .ok (.iload_n 1, 1) := by decide +kernel
theorem dX12_byteAt_1 : decode cX12_byteAt 1 = .ok (.aload_n 0, 1) := by decide +kernel
theorem dX12_byteAt_2 : decode cX12_byteAt 2 = .ok (.getfield 363, 3) := by decide +kernel
theorem dX12_byteAt_5 : decode cX12_byteAt 5 = .ok (.if_icmp .ge 12, 3) := by decide +kernel
theorem dX12_byteAt_8 : decode cX12_byteAt 8 = .ok (.aload_n 0, 1) := by decide +kernel
theorem dX12_byteAt_9 : decode cX12_byteAt 9 = .ok (.getfield 62, 3) := by decide +kernel
theorem dX12_byteAt_12 : decode cX12_byteAt 12 = .ok (.iload_n 1, 1) := by decide +kernel
theorem dX12_byteAt_13 : decode cX12_byteAt 13 = .ok (.iaload, 1) := by decide +kernel
theorem dX12_byteAt_14 : decode cX12_byteAt 14 = .ok (.goto 4, 3) := by decide +kernel
theorem dX12_byteAt_17 : decode cX12_byteAt 17 = .ok (.iconst (-1), 1) := by decide +kernel
theorem dX12_byteAt_18 : decode cX12_byteAt 18 = .ok (.ireturn, 1) := by decide +kernel
set_option maxRecDepth 100000 in
theorem sp_X12_byteAt (G : MG) (hG : (g_l G).stackTraces = false) (d : Nat) (hd : 0 ≤ d)   (σ : MsSt) (l0 : Nat) (l1 : Int32) (h0 : ms_kd l0 = 13) : MsSpec G mX12_byteAt d 0 0 [.ref l0, .int l1] σ (ms_ki σ) (f_X12_byteAt σ l0 l1) := by
  refine ms_start (by decide +kernel) rfl rfl (Nat.le_of_ble_eq_true rfl) ?_
  show TrO G mX12_byteAt d 0 0 0 0 (ms_ki σ) 0 [(0, .ref l0), (1, .int l1)] [] σ (if l1 < (ms_i σ l0 28) then (ms_ald σ (ms_rf l0 26) l1).bind fun v1 => some v1 else some (-1))
  refine tr_iload_n (i := 1) dX12_byteAt_0 rfl ?_
  refine tr_aload_n (i := 0) dX12_byteAt_1 rfl ?_
  refine tr_getI 12 h0 fl_X12_363 (by decide +kernel) dX12_byteAt_2 ?_
  refine tr_icge (o := none) (tgt := 17) dX12_byteAt_5 (by decide) ?_ ?_
  · refine tr_iconst (v := (-1)) dX12_byteAt_17 (by decide +kernel) ?_
    exact tr_iret rfl rfl (by decide) (by decide) dX12_byteAt_18
  · refine tr_aload_n (i := 0) dX12_byteAt_8 rfl ?_
    refine tr_getR 12 h0 fl_X12_62 (by decide +kernel) dX12_byteAt_9 ?_
    refine tr_iload_n (i := 1) dX12_byteAt_12 rfl ?_
    refine tr_ald (rk_12_26 h0) dX12_byteAt_13 (fun v1 => ?_)
    refine tr_goto (tgt := 18) dX12_byteAt_14 (by decide) ?_
    exact tr_iret rfl rfl (by decide) (by decide) dX12_byteAt_18
theorem dX12_isLetter_0 : decode cX12_isLetter 0 = .ok (.aload_n 0, 1) := by decide +kernel
theorem dX12_isLetter_1 : decode cX12_isLetter 1 = .ok (.iload_n 1, 1) := by decide +kernel
theorem dX12_isLetter_2 : decode cX12_isLetter 2 = .ok (.invokevirtual 366, 3) := by decide +kernel
theorem dX12_isLetter_5 : decode cX12_isLetter 5 = .ok (.bipush 97, 2) := by decide +kernel
theorem dX12_isLetter_7 : decode cX12_isLetter 7 = .ok (.if_icmp .lt 17, 3) := by decide +kernel
theorem dX12_isLetter_10 : decode cX12_isLetter 10 = .ok (.aload_n 0, 1) := by decide +kernel
theorem dX12_isLetter_11 : decode cX12_isLetter 11 = .ok (.iload_n 1, 1) := by decide +kernel
theorem dX12_isLetter_12 : decode cX12_isLetter 12 = .ok (.invokevirtual 366, 3) := by decide +kernel
theorem dX12_isLetter_15 : decode cX12_isLetter 15 = .ok (.bipush 122, 2) := by decide +kernel
theorem dX12_isLetter_17 : decode cX12_isLetter 17 = .ok (.if_icmp .gt 7, 3) := by decide +kernel
theorem dX12_isLetter_20 : decode cX12_isLetter 20 = .ok (.iconst 1, 1) := by decide +kernel
theorem dX12_isLetter_21 : decode cX12_isLetter 21 = .ok (.goto 4, 3) := by decide +kernel
theorem dX12_isLetter_24 : decode cX12_isLetter 24 = .ok (.iconst 0, 1) := by decide +kernel
theorem dX12_isLetter_25 : decode cX12_isLetter 25 = .ok (.ireturn, 1) := by decide +kernel
set_option maxRecDepth 100000 in
theorem sp_X12_isLetter (G : MG) (hG : (g_l G).stackTraces = false) (d : Nat) (hd : 1 ≤ d)   (σ : MsSt) (l0 : Nat) (l1 : Int32) (h0 : ms_kd l0 = 13) : MsSpec G mX12_isLetter d 0 0 [.ref l0, .int l1] σ (ms_ki σ) (f_X12_isLetter σ l0 l1) := by
  refine ms_start (by decide +kernel) rfl rfl (Nat.le_of_ble_eq_true rfl) ?_
  show TrO G mX12_isLetter d 0 0 0 0 (ms_ki σ) 0 [(0, .ref l0), (1, .int l1)] [] σ ((f_X12_byteAt σ l0 l1).bind fun v1 => if v1 < 97 then some 0 else (f_X12_byteAt σ l0 l1).bind fun v2 => if 122 < v2 then some 0 else some 1)
  refine tr_aload_n (i := 0) dX12_isLetter_0 rfl ?_
  refine tr_iload_n (i := 1) dX12_isLetter_1 rfl ?_
  refine tr_c_i (ms_cV (rest := []) (al := [.int l1]) 12 (sp_X12_byteAt G hG (d - 1) (by omega) σ l0 l1 h0) h0 (by decide +kernel) kl_X12_366 fv_X12_byteAt dX12_isLetter_2 (show _ = some 1 by decide +kernel) (by omega) (Nat.le_of_ble_eq_true rfl) (by decide) (by decide)) (fun v1 => ?_)
  refine tr_bipush (v := 97) dX12_isLetter_5 (by decide +kernel) ?_
  refine tr_iclt (o := none) (tgt := 24) dX12_isLetter_7 (by decide) ?_ ?_
  · refine tr_iconst (v := 0) dX12_isLetter_24 (by decide +kernel) ?_
    exact tr_zret rfl (by decide +kernel) rfl (by decide) (by decide) dX12_isLetter_25
  · refine tr_aload_n (i := 0) dX12_isLetter_10 rfl ?_
    refine tr_iload_n (i := 1) dX12_isLetter_11 rfl ?_
    refine tr_c_i (ms_cV (rest := []) (al := [.int l1]) 12 (sp_X12_byteAt G hG (d - 1) (by omega) σ l0 l1 h0) h0 (by decide +kernel) kl_X12_366 fv_X12_byteAt dX12_isLetter_12 (show _ = some 1 by decide +kernel) (by omega) (Nat.le_of_ble_eq_true rfl) (by decide) (by decide)) (fun v2 => ?_)
    refine tr_bipush (v := 122) dX12_isLetter_15 (by decide +kernel) ?_
    refine tr_icgt (o := none) (tgt := 24) dX12_isLetter_17 (by decide) ?_ ?_
    · refine tr_iconst (v := 0) dX12_isLetter_24 (by decide +kernel) ?_
      exact tr_zret rfl (by decide +kernel) rfl (by decide) (by decide) dX12_isLetter_25
    · refine tr_iconst (v := 1) dX12_isLetter_20 (by decide +kernel) ?_
      refine tr_goto (tgt := 25) dX12_isLetter_21 (by decide) ?_
      exact tr_zret rfl (by decide +kernel) rfl (by decide) (by decide) dX12_isLetter_25
theorem dX12_isDigit_0 : decode cX12_isDigit 0 = .ok (.aload_n 0, 1) := by decide +kernel
theorem dX12_isDigit_1 : decode cX12_isDigit 1 = .ok (.iload_n 1, 1) := by decide +kernel
theorem dX12_isDigit_2 : decode cX12_isDigit 2 = .ok (.invokevirtual 366, 3) := by decide +kernel
theorem dX12_isDigit_5 : decode cX12_isDigit 5 = .ok (.bipush 48, 2) := by decide +kernel
theorem dX12_isDigit_7 : decode cX12_isDigit 7 = .ok (.if_icmp .lt 17, 3) := by decide +kernel
theorem dX12_isDigit_10 : decode cX12_isDigit 10 = .ok (.aload_n 0, 1) := by decide +kernel
theorem dX12_isDigit_11 : decode cX12_isDigit 11 = .ok (.iload_n 1, 1) := by decide +kernel
theorem dX12_isDigit_12 : decode cX12_isDigit 12 = .ok (.invokevirtual 366, 3) := by decide +kernel
theorem dX12_isDigit_15 : decode cX12_isDigit 15 = .ok (.bipush 57, 2) := by decide +kernel
theorem dX12_isDigit_17 : decode cX12_isDigit 17 = .ok (.if_icmp .gt 7, 3) := by decide +kernel
theorem dX12_isDigit_20 : decode cX12_isDigit 20 = .ok (.iconst 1, 1) := by decide +kernel
theorem dX12_isDigit_21 : decode cX12_isDigit 21 = .ok (.goto 4, 3) := by decide +kernel
theorem dX12_isDigit_24 : decode cX12_isDigit 24 = .ok (.iconst 0, 1) := by decide +kernel
theorem dX12_isDigit_25 : decode cX12_isDigit 25 = .ok (.ireturn, 1) := by decide +kernel
set_option maxRecDepth 100000 in
theorem sp_X12_isDigit (G : MG) (hG : (g_l G).stackTraces = false) (d : Nat) (hd : 1 ≤ d)   (σ : MsSt) (l0 : Nat) (l1 : Int32) (h0 : ms_kd l0 = 13) : MsSpec G mX12_isDigit d 0 0 [.ref l0, .int l1] σ (ms_ki σ) (f_X12_isDigit σ l0 l1) := by
  refine ms_start (by decide +kernel) rfl rfl (Nat.le_of_ble_eq_true rfl) ?_
  show TrO G mX12_isDigit d 0 0 0 0 (ms_ki σ) 0 [(0, .ref l0), (1, .int l1)] [] σ ((f_X12_byteAt σ l0 l1).bind fun v1 => if v1 < 48 then some 0 else (f_X12_byteAt σ l0 l1).bind fun v2 => if 57 < v2 then some 0 else some 1)
  refine tr_aload_n (i := 0) dX12_isDigit_0 rfl ?_
  refine tr_iload_n (i := 1) dX12_isDigit_1 rfl ?_
  refine tr_c_i (ms_cV (rest := []) (al := [.int l1]) 12 (sp_X12_byteAt G hG (d - 1) (by omega) σ l0 l1 h0) h0 (by decide +kernel) kl_X12_366 fv_X12_byteAt dX12_isDigit_2 (show _ = some 1 by decide +kernel) (by omega) (Nat.le_of_ble_eq_true rfl) (by decide) (by decide)) (fun v1 => ?_)
  refine tr_bipush (v := 48) dX12_isDigit_5 (by decide +kernel) ?_
  refine tr_iclt (o := none) (tgt := 24) dX12_isDigit_7 (by decide) ?_ ?_
  · refine tr_iconst (v := 0) dX12_isDigit_24 (by decide +kernel) ?_
    exact tr_zret rfl (by decide +kernel) rfl (by decide) (by decide) dX12_isDigit_25
  · refine tr_aload_n (i := 0) dX12_isDigit_10 rfl ?_
    refine tr_iload_n (i := 1) dX12_isDigit_11 rfl ?_
    refine tr_c_i (ms_cV (rest := []) (al := [.int l1]) 12 (sp_X12_byteAt G hG (d - 1) (by omega) σ l0 l1 h0) h0 (by decide +kernel) kl_X12_366 fv_X12_byteAt dX12_isDigit_12 (show _ = some 1 by decide +kernel) (by omega) (Nat.le_of_ble_eq_true rfl) (by decide) (by decide)) (fun v2 => ?_)
    refine tr_bipush (v := 57) dX12_isDigit_15 (by decide +kernel) ?_
    refine tr_icgt (o := none) (tgt := 24) dX12_isDigit_17 (by decide) ?_ ?_
    · refine tr_iconst (v := 0) dX12_isDigit_24 (by decide +kernel) ?_
      exact tr_zret rfl (by decide +kernel) rfl (by decide) (by decide) dX12_isDigit_25
    · refine tr_iconst (v := 1) dX12_isDigit_20 (by decide +kernel) ?_
      refine tr_goto (tgt := 25) dX12_isDigit_21 (by decide) ?_
      exact tr_zret rfl (by decide +kernel) rfl (by decide) (by decide) dX12_isDigit_25
theorem dX12_scan_0 : decode cX12_scan 0 = .ok (.aload_n 0, 1) := by decide +kernel
theorem dX12_scan_1 : decode cX12_scan 1 = .ok (.aload_n 0, 1) := by decide +kernel
theorem dX12_scan_2 : decode cX12_scan 2 = .ok (.getfield 369, 3) := by decide +kernel
theorem dX12_scan_5 : decode cX12_scan 5 = .ok (.invokevirtual 366, 3) := by decide +kernel
theorem dX12_scan_8 : decode cX12_scan 8 = .ok (.bipush 32, 2) := by decide +kernel
theorem dX12_scan_10 : decode cX12_scan 10 = .ok (.if_icmp .eq 16, 3) := by decide +kernel
theorem dX12_scan_13 : decode cX12_scan 13 = .ok (.aload_n 0, 1) := by decide +kernel
theorem dX12_scan_14 : decode cX12_scan 14 = .ok (.aload_n 0, 1) := by decide +kernel
theorem dX12_scan_15 : decode cX12_scan 15 = .ok (.getfield 369, 3) := by decide +kernel
theorem dX12_scan_18 : decode cX12_scan 18 = .ok (.invokevirtual 366, 3) := by decide +kernel
theorem dX12_scan_21 : decode cX12_scan 21 = .ok (.bipush 10, 2) := by decide +kernel
theorem dX12_scan_23 : decode cX12_scan 23 = .ok (.if_icmp .ne 16, 3) := by decide +kernel
theorem dX12_scan_26 : decode cX12_scan 26 = .ok (.aload_n 0, 1) := by decide +kernel
theorem dX12_scan_27 : decode cX12_scan 27 = .ok (.dup, 1) := by decide +kernel
theorem dX12_scan_28 : decode cX12_scan 28 = .ok (.getfield 369, 3) := by decide +kernel
theorem dX12_scan_31 : decode cX12_scan 31 = .ok (.iconst 1, 1) := by decide +kernel
theorem dX12_scan_32 : decode cX12_scan 32 = .ok (.iadd, 1) := by decide +kernel
theorem dX12_scan_33 : decode cX12_scan 33 = .ok (.putfield 369, 3) := by decide +kernel
theorem dX12_scan_36 : decode cX12_scan 36 = .ok (.goto (-36), 3) := by decide +kernel
theorem dX12_scan_39 : decode cX12_scan 39 = .ok (.aload_n 0, 1) := by decide +kernel
theorem dX12_scan_40 : decode cX12_scan 40 = .ok (.aload_n 0, 1) := by decide +kernel
theorem dX12_scan_41 : decode cX12_scan 41 = .ok (.getfield 369, 3) := by decide +kernel
theorem dX12_scan_44 : decode cX12_scan 44 = .ok (.putfield 372, 3) := by decide +kernel
theorem dX12_scan_47 : decode cX12_scan 47 = .ok (.aload_n 0, 1) := by decide +kernel
theorem dX12_scan_48 : decode cX12_scan 48 = .ok (.getfield 369, 3) := by decide +kernel
theorem dX12_scan_51 : decode cX12_scan 51 = .ok (.aload_n 0, 1) := by decide +kernel
theorem dX12_scan_52 : decode cX12_scan 52 = .ok (.getfield 363, 3) := by decide +kernel
theorem dX12_scan_55 : decode cX12_scan 55 = .ok (.if_icmp .lt 11, 3) := by decide +kernel
theorem dX12_scan_58 : decode cX12_scan 58 = .ok (.aload_n 0, 1) := by decide +kernel
theorem dX12_scan_59 : decode cX12_scan 59 = .ok (.iconst 0, 1) := by decide +kernel
theorem dX12_scan_60 : decode cX12_scan 60 = .ok (.putfield 375, 3) := by decide +kernel
theorem dX12_scan_63 : decode cX12_scan 63 = .ok (.goto 104, 3) := by decide +kernel
theorem dX12_scan_66 : decode cX12_scan 66 = .ok (.aload_n 0, 1) := by decide +kernel
theorem dX12_scan_67 : decode cX12_scan 67 = .ok (.aload_n 0, 1) := by decide +kernel
theorem dX12_scan_68 : decode cX12_scan 68 = .ok (.getfield 369, 3) := by decide +kernel
theorem dX12_scan_71 : decode cX12_scan 71 = .ok (.invokevirtual 378, 3) := by decide +kernel
theorem dX12_scan_74 : decode cX12_scan 74 = .ok (.ifCond .eq 35, 3) := by decide +kernel
theorem dX12_scan_77 : decode cX12_scan 77 = .ok (.aload_n 0, 1) := by decide +kernel
theorem dX12_scan_78 : decode cX12_scan 78 = .ok (.aload_n 0, 1) := by decide +kernel
theorem dX12_scan_79 : decode cX12_scan 79 = .ok (.getfield 369, 3) := by decide +kernel
theorem dX12_scan_82 : decode cX12_scan 82 = .ok (.invokevirtual 378, 3) := by decide +kernel
theorem dX12_scan_85 : decode cX12_scan 85 = .ok (.ifCond .eq 16, 3) := by decide +kernel
theorem dX12_scan_88 : decode cX12_scan 88 = .ok (.aload_n 0, 1) := by decide +kernel
theorem dX12_scan_89 : decode cX12_scan 89 = .ok (.dup, 1) := by decide +kernel
theorem dX12_scan_90 : decode cX12_scan 90 = .ok (.getfield 369, 3) := by decide +kernel
theorem dX12_scan_93 : decode cX12_scan 93 = .ok (.iconst 1, 1) := by decide +kernel
theorem dX12_scan_94 : decode cX12_scan 94 = .ok (.iadd, 1) := by decide +kernel
theorem dX12_scan_95 : decode cX12_scan 95 = .ok (.putfield 369, 3) := by decide +kernel
theorem dX12_scan_98 : decode cX12_scan 98 = .ok (.goto (-21), 3) := by decide +kernel
theorem dX12_scan_101 : decode cX12_scan 101 = .ok (.aload_n 0, 1) := by decide +kernel
theorem dX12_scan_102 : decode cX12_scan 102 = .ok (.iconst 1, 1) := by decide +kernel
theorem dX12_scan_103 : decode cX12_scan 103 = .ok (.putfield 375, 3) := by decide +kernel
theorem dX12_scan_106 : decode cX12_scan 106 = .ok (.goto 61, 3) := by decide +kernel
theorem dX12_scan_109 : decode cX12_scan 109 = .ok (.aload_n 0, 1) := by decide +kernel
theorem dX12_scan_110 : decode cX12_scan 110 = .ok (.aload_n 0, 1) := by decide +kernel
theorem dX12_scan_111 : decode cX12_scan 111 = .ok (.getfield 369, 3) := by decide +kernel
theorem dX12_scan_114 : decode cX12_scan 114 = .ok (.invokevirtual 381, 3) := by decide +kernel
theorem dX12_scan_117 : decode cX12_scan 117 = .ok (.ifCond .eq 35, 3) := by decide +kernel
theorem dX12_scan_120 : decode cX12_scan 120 = .ok (.aload_n 0, 1) := by decide +kernel
theorem dX12_scan_121 : decode cX12_scan 121 = .ok (.aload_n 0, 1) := by decide +kernel
theorem dX12_scan_122 : decode cX12_scan 122 = .ok (.getfield 369, 3) := by decide +kernel
theorem dX12_scan_125 : decode cX12_scan 125 = .ok (.invokevirtual 381, 3) := by decide +kernel
theorem dX12_scan_128 : decode cX12_scan 128 = .ok (.ifCond .eq 16, 3) := by decide +kernel
theorem dX12_scan_131 : decode cX12_scan 131 = .ok (.aload_n 0, 1) := by decide +kernel
theorem dX12_scan_132 : decode cX12_scan 132 = .ok (.dup, 1) := by decide +kernel
theorem dX12_scan_133 : decode cX12_scan 133 = .ok (.getfield 369, 3) := by decide +kernel
theorem dX12_scan_136 : decode cX12_scan 136 = .ok (.iconst 1, 1) := by decide +kernel
theorem dX12_scan_137 : decode cX12_scan 137 = .ok (.iadd, 1) := by decide +kernel
theorem dX12_scan_138 : decode cX12_scan 138 = .ok (.putfield 369, 3) := by decide +kernel
theorem dX12_scan_141 : decode cX12_scan 141 = .ok (.goto (-21), 3) := by decide +kernel
theorem dX12_scan_144 : decode cX12_scan 144 = .ok (.aload_n 0, 1) := by decide +kernel
theorem dX12_scan_145 : decode cX12_scan 145 = .ok (.iconst 2, 1) := by decide +kernel
theorem dX12_scan_146 : decode cX12_scan 146 = .ok (.putfield 375, 3) := by decide +kernel
theorem dX12_scan_149 : decode cX12_scan 149 = .ok (.goto 18, 3) := by decide +kernel
theorem dX12_scan_152 : decode cX12_scan 152 = .ok (.aload_n 0, 1) := by decide +kernel
theorem dX12_scan_153 : decode cX12_scan 153 = .ok (.dup, 1) := by decide +kernel
theorem dX12_scan_154 : decode cX12_scan 154 = .ok (.getfield 369, 3) := by decide +kernel
theorem dX12_scan_157 : decode cX12_scan 157 = .ok (.iconst 1, 1) := by decide +kernel
theorem dX12_scan_158 : decode cX12_scan 158 = .ok (.iadd, 1) := by decide +kernel
theorem dX12_scan_159 : decode cX12_scan 159 = .ok (.putfield 369, 3) := by decide +kernel
theorem dX12_scan_162 : decode cX12_scan 162 = .ok (.aload_n 0, 1) := by decide +kernel
theorem dX12_scan_163 : decode cX12_scan 163 = .ok (.iconst 3, 1) := by decide +kernel
theorem dX12_scan_164 : decode cX12_scan 164 = .ok (.putfield 375, 3) := by decide +kernel
theorem dX12_scan_167 : decode cX12_scan 167 = .ok (.return_, 1) := by decide +kernel
set_option maxRecDepth 100000 in
theorem t_X12_scan_120 (G : MG) (hG : (g_l G).stackTraces = false) (d : Nat) (hd : 2 ≤ d)    : ∀ (n : Nat) (σ : MsSt) (l0 : Nat) (h0 : ms_kd l0 = 13), TrO G mX12_scan d 0 0 0 0 ms_wv 120 [(0, .ref l0)] [] σ (f_X12_scan_120 n σ l0) := by
  intro n
  induction n with
  | zero => exact fun _ _ _ => tr_none
  | succ n ih =>
    intro σ l0 h0
    show TrO G mX12_scan d 0 0 0 0 ms_wv 120 [(0, .ref l0)] [] σ ((f_X12_isDigit σ l0 (ms_i σ l0 29)).bind fun v9 => if v9 = 0 then ms_nm (ms_si σ l0 31 2) fun s10 => some s10 else ms_nm (ms_si σ l0 29 ((ms_i σ l0 29) + 1)) fun s11 => (f_X12_scan_120 n) s11 l0)
    refine tr_aload_n (i := 0) dX12_scan_120 rfl ?_
    refine tr_aload_n (i := 0) dX12_scan_121 rfl ?_
    refine tr_getI 12 h0 fl_X12_369 (by decide +kernel) dX12_scan_122 ?_
    refine tr_c_i (ms_cV (rest := []) (al := [.int (ms_i σ l0 29)]) 12 (sp_X12_isDigit G hG (d - 1) (by omega) σ l0 (ms_i σ l0 29) h0) h0 (by decide +kernel) kl_X12_381 fv_X12_isDigit dX12_scan_125 (show _ = some 1 by decide +kernel) (by omega) (Nat.le_of_ble_eq_true rfl) (by decide) (by decide)) (fun v9 => ?_)
    refine tr_ifeq (o := none) (tgt := 144) dX12_scan_128 (by decide) ?_ ?_
    · refine tr_aload_n (i := 0) dX12_scan_144 rfl ?_
      refine tr_iconst (v := 2) dX12_scan_145 (by decide +kernel) ?_
      refine tr_putI 12 h0 fl_X12_375 (by decide +kernel) dX12_scan_146 ?_
      refine ms_ltS (fun s10 => ?_)
      refine tr_goto (tgt := 167) dX12_scan_149 (by decide) ?_
      exact tr_vret rfl rfl (by decide) (by decide) dX12_scan_167
    · refine tr_aload_n (i := 0) dX12_scan_131 rfl ?_
      refine tr_dup dX12_scan_132 rfl ?_
      refine tr_getI 12 h0 fl_X12_369 (by decide +kernel) dX12_scan_133 ?_
      refine tr_iconst (v := 1) dX12_scan_136 (by decide +kernel) ?_
      refine tr_iadd dX12_scan_137 ?_
      refine tr_putI 12 h0 fl_X12_369 (by decide +kernel) dX12_scan_138 ?_
      refine ms_ltS (fun s11 => ?_)
      refine tr_goto (tgt := 120) dX12_scan_141 (by decide) ?_
      exact (fun s y0 g0 => ih s y0 g0) s11 l0 h0
set_option maxRecDepth 100000 in
theorem t_X12_scan_77 (G : MG) (hG : (g_l G).stackTraces = false) (d : Nat) (hd : 2 ≤ d)    : ∀ (n : Nat) (σ : MsSt) (l0 : Nat) (h0 : ms_kd l0 = 13), TrO G mX12_scan d 0 0 0 0 ms_wv 77 [(0, .ref l0)] [] σ (f_X12_scan_77 n σ l0) := by
  intro n
  induction n with
  | zero => exact fun _ _ _ => tr_none
  | succ n ih =>
    intro σ l0 h0
    show TrO G mX12_scan d 0 0 0 0 ms_wv 77 [(0, .ref l0)] [] σ ((f_X12_isLetter σ l0 (ms_i σ l0 29)).bind fun v12 => if v12 = 0 then ms_nm (ms_si σ l0 31 1) fun s13 => some s13 else ms_nm (ms_si σ l0 29 ((ms_i σ l0 29) + 1)) fun s14 => (f_X12_scan_77 n) s14 l0)
    refine tr_aload_n (i := 0) dX12_scan_77 rfl ?_
    refine tr_aload_n (i := 0) dX12_scan_78 rfl ?_
    refine tr_getI 12 h0 fl_X12_369 (by decide +kernel) dX12_scan_79 ?_
    refine tr_c_i (ms_cV (rest := []) (al := [.int (ms_i σ l0 29)]) 12 (sp_X12_isLetter G hG (d - 1) (by omega) σ l0 (ms_i σ l0 29) h0) h0 (by decide +kernel) kl_X12_378 fv_X12_isLetter dX12_scan_82 (show _ = some 1 by decide +kernel) (by omega) (Nat.le_of_ble_eq_true rfl) (by decide) (by decide)) (fun v12 => ?_)
    refine tr_ifeq (o := none) (tgt := 101) dX12_scan_85 (by decide) ?_ ?_
    · refine tr_aload_n (i := 0) dX12_scan_101 rfl ?_
      refine tr_iconst (v := 1) dX12_scan_102 (by decide +kernel) ?_
      refine tr_putI 12 h0 fl_X12_375 (by decide +kernel) dX12_scan_103 ?_
      refine ms_ltS (fun s13 => ?_)
      refine tr_goto (tgt := 167) dX12_scan_106 (by decide) ?_
      exact tr_vret rfl rfl (by decide) (by decide) dX12_scan_167
    · refine tr_aload_n (i := 0) dX12_scan_88 rfl ?_
      refine tr_dup dX12_scan_89 rfl ?_
      refine tr_getI 12 h0 fl_X12_369 (by decide +kernel) dX12_scan_90 ?_
      refine tr_iconst (v := 1) dX12_scan_93 (by decide +kernel) ?_
      refine tr_iadd dX12_scan_94 ?_
      refine tr_putI 12 h0 fl_X12_369 (by decide +kernel) dX12_scan_95 ?_
      refine ms_ltS (fun s14 => ?_)
      refine tr_goto (tgt := 77) dX12_scan_98 (by decide) ?_
      exact (fun s y0 g0 => ih s y0 g0) s14 l0 h0
set_option maxRecDepth 100000 in
theorem t_X12_scan_0 (G : MG) (hG : (g_l G).stackTraces = false) (d : Nat) (hd : 2 ≤ d)    : ∀ (n : Nat) (σ : MsSt) (l0 : Nat) (h0 : ms_kd l0 = 13), TrO G mX12_scan d 0 0 0 0 ms_wv 0 [(0, .ref l0)] [] σ (f_X12_scan_0 n σ l0) := by
  intro n
  induction n with
  | zero => exact fun _ _ _ => tr_none
  | succ n ih =>
    intro σ l0 h0
    show TrO G mX12_scan d 0 0 0 0 ms_wv 0 [(0, .ref l0)] [] σ ((f_X12_byteAt σ l0 (ms_i σ l0 29)).bind fun v1 => if v1 = 32 then ms_nm (ms_si σ l0 29 ((ms_i σ l0 29) + 1)) fun s2 => (f_X12_scan_0 n) s2 l0 else (f_X12_byteAt σ l0 (ms_i σ l0 29)).bind fun v3 => if v3 = 10 then ms_nm (ms_si σ l0 29 ((ms_i σ l0 29) + 1)) fun s16 => (f_X12_scan_0 n) s16 l0 else ms_nm (ms_si σ l0 30 (ms_i σ l0 29)) fun s4 => if (ms_i s4 l0 29) < (ms_i s4 l0 28) then (f_X12_isLetter s4 l0 (ms_i s4 l0 29)).bind fun v5 => if v5 = 0 then (f_X12_isDigit s4 l0 (ms_i s4 l0 29)).bind fun v6 => if v6 = 0 then ms_nm (ms_si s4 l0 29 ((ms_i s4 l0 29) + 1)) fun s7 => ms_nm (ms_si s7 l0 31 3) fun s8 => some s8 else f_X12_scan_120 ms_fuel s4 l0 else f_X12_scan_77 ms_fuel s4 l0 else ms_nm (ms_si s4 l0 31 0) fun s15 => some s15)
    refine tr_aload_n (i := 0) dX12_scan_0 rfl ?_
    refine tr_aload_n (i := 0) dX12_scan_1 rfl ?_
    refine tr_getI 12 h0 fl_X12_369 (by decide +kernel) dX12_scan_2 ?_
    refine tr_c_i (ms_cV (rest := []) (al := [.int (ms_i σ l0 29)]) 12 (sp_X12_byteAt G hG (d - 1) (by omega) σ l0 (ms_i σ l0 29) h0) h0 (by decide +kernel) kl_X12_366 fv_X12_byteAt dX12_scan_5 (show _ = some 1 by decide +kernel) (by omega) (Nat.le_of_ble_eq_true rfl) (by decide) (by decide)) (fun v1 => ?_)
    refine tr_bipush (v := 32) dX12_scan_8 (by decide +kernel) ?_
    refine tr_iceq (o := none) (tgt := 26) dX12_scan_10 (by decide) ?_ ?_
    · refine tr_aload_n (i := 0) dX12_scan_26 rfl ?_
      refine tr_dup dX12_scan_27 rfl ?_
      refine tr_getI 12 h0 fl_X12_369 (by decide +kernel) dX12_scan_28 ?_
      refine tr_iconst (v := 1) dX12_scan_31 (by decide +kernel) ?_
      refine tr_iadd dX12_scan_32 ?_
      refine tr_putI 12 h0 fl_X12_369 (by decide +kernel) dX12_scan_33 ?_
      refine ms_ltS (fun s2 => ?_)
      refine tr_goto (tgt := 0) dX12_scan_36 (by decide) ?_
      exact (fun s y0 g0 => ih s y0 g0) s2 l0 h0
    · refine tr_aload_n (i := 0) dX12_scan_13 rfl ?_
      refine tr_aload_n (i := 0) dX12_scan_14 rfl ?_
      refine tr_getI 12 h0 fl_X12_369 (by decide +kernel) dX12_scan_15 ?_
      refine tr_c_i (ms_cV (rest := []) (al := [.int (ms_i σ l0 29)]) 12 (sp_X12_byteAt G hG (d - 1) (by omega) σ l0 (ms_i σ l0 29) h0) h0 (by decide +kernel) kl_X12_366 fv_X12_byteAt dX12_scan_18 (show _ = some 1 by decide +kernel) (by omega) (Nat.le_of_ble_eq_true rfl) (by decide) (by decide)) (fun v3 => ?_)
      refine tr_bipush (v := 10) dX12_scan_21 (by decide +kernel) ?_
      refine tr_icne (o := none) (tgt := 39) dX12_scan_23 (by decide) ?_ ?_
      · refine tr_aload_n (i := 0) dX12_scan_39 rfl ?_
        refine tr_aload_n (i := 0) dX12_scan_40 rfl ?_
        refine tr_getI 12 h0 fl_X12_369 (by decide +kernel) dX12_scan_41 ?_
        refine tr_putI 12 h0 fl_X12_372 (by decide +kernel) dX12_scan_44 ?_
        refine ms_ltS (fun s4 => ?_)
        refine tr_aload_n (i := 0) dX12_scan_47 rfl ?_
        refine tr_getI 12 h0 fl_X12_369 (by decide +kernel) dX12_scan_48 ?_
        refine tr_aload_n (i := 0) dX12_scan_51 rfl ?_
        refine tr_getI 12 h0 fl_X12_363 (by decide +kernel) dX12_scan_52 ?_
        refine tr_iclt (o := none) (tgt := 66) dX12_scan_55 (by decide) ?_ ?_
        · refine tr_aload_n (i := 0) dX12_scan_66 rfl ?_
          refine tr_aload_n (i := 0) dX12_scan_67 rfl ?_
          refine tr_getI 12 h0 fl_X12_369 (by decide +kernel) dX12_scan_68 ?_
          refine tr_c_i (ms_cV (rest := []) (al := [.int (ms_i s4 l0 29)]) 12 (sp_X12_isLetter G hG (d - 1) (by omega) s4 l0 (ms_i s4 l0 29) h0) h0 (by decide +kernel) kl_X12_378 fv_X12_isLetter dX12_scan_71 (show _ = some 1 by decide +kernel) (by omega) (Nat.le_of_ble_eq_true rfl) (by decide) (by decide)) (fun v5 => ?_)
          refine tr_ifeq (o := none) (tgt := 109) dX12_scan_74 (by decide) ?_ ?_
          · refine tr_aload_n (i := 0) dX12_scan_109 rfl ?_
            refine tr_aload_n (i := 0) dX12_scan_110 rfl ?_
            refine tr_getI 12 h0 fl_X12_369 (by decide +kernel) dX12_scan_111 ?_
            refine tr_c_i (ms_cV (rest := []) (al := [.int (ms_i s4 l0 29)]) 12 (sp_X12_isDigit G hG (d - 1) (by omega) s4 l0 (ms_i s4 l0 29) h0) h0 (by decide +kernel) kl_X12_381 fv_X12_isDigit dX12_scan_114 (show _ = some 1 by decide +kernel) (by omega) (Nat.le_of_ble_eq_true rfl) (by decide) (by decide)) (fun v6 => ?_)
            refine tr_ifeq (o := none) (tgt := 152) dX12_scan_117 (by decide) ?_ ?_
            · refine tr_aload_n (i := 0) dX12_scan_152 rfl ?_
              refine tr_dup dX12_scan_153 rfl ?_
              refine tr_getI 12 h0 fl_X12_369 (by decide +kernel) dX12_scan_154 ?_
              refine tr_iconst (v := 1) dX12_scan_157 (by decide +kernel) ?_
              refine tr_iadd dX12_scan_158 ?_
              refine tr_putI 12 h0 fl_X12_369 (by decide +kernel) dX12_scan_159 ?_
              refine ms_ltS (fun s7 => ?_)
              refine tr_aload_n (i := 0) dX12_scan_162 rfl ?_
              refine tr_iconst (v := 3) dX12_scan_163 (by decide +kernel) ?_
              refine tr_putI 12 h0 fl_X12_375 (by decide +kernel) dX12_scan_164 ?_
              refine ms_ltS (fun s8 => ?_)
              exact tr_vret rfl rfl (by decide) (by decide) dX12_scan_167
            · exact t_X12_scan_120 G hG d hd ms_fuel s4 l0 h0
          · exact t_X12_scan_77 G hG d hd ms_fuel s4 l0 h0
        · refine tr_aload_n (i := 0) dX12_scan_58 rfl ?_
          refine tr_iconst (v := 0) dX12_scan_59 (by decide +kernel) ?_
          refine tr_putI 12 h0 fl_X12_375 (by decide +kernel) dX12_scan_60 ?_
          refine ms_ltS (fun s15 => ?_)
          refine tr_goto (tgt := 167) dX12_scan_63 (by decide) ?_
          exact tr_vret rfl rfl (by decide) (by decide) dX12_scan_167
      · refine tr_aload_n (i := 0) dX12_scan_26 rfl ?_
        refine tr_dup dX12_scan_27 rfl ?_
        refine tr_getI 12 h0 fl_X12_369 (by decide +kernel) dX12_scan_28 ?_
        refine tr_iconst (v := 1) dX12_scan_31 (by decide +kernel) ?_
        refine tr_iadd dX12_scan_32 ?_
        refine tr_putI 12 h0 fl_X12_369 (by decide +kernel) dX12_scan_33 ?_
        refine ms_ltS (fun s16 => ?_)
        refine tr_goto (tgt := 0) dX12_scan_36 (by decide) ?_
        exact (fun s y0 g0 => ih s y0 g0) s16 l0 h0
set_option maxRecDepth 100000 in
theorem sp_X12_scan (G : MG) (hG : (g_l G).stackTraces = false) (d : Nat) (hd : 2 ≤ d)   (σ : MsSt) (l0 : Nat) (h0 : ms_kd l0 = 13) : MsSpec G mX12_scan d 0 0 [.ref l0] σ ms_wv (f_X12_scan σ l0) := by
  refine ms_start (by decide +kernel) rfl rfl (Nat.le_of_ble_eq_true rfl) ?_
  show TrO G mX12_scan d 0 0 0 0 ms_wv 0 [(0, .ref l0)] [] σ (f_X12_scan_0 ms_fuel σ l0)
  exact t_X12_scan_0 G hG d hd ms_fuel σ l0 h0
theorem dX12_startText_0 : decode cX12_startText 0 = .ok (.aload_n 0, 1) := by decide +kernel
theorem dX12_startText_1 : decode cX12_startText 1 = .ok (.iload_n 1, 1) := by decide +kernel
theorem dX12_startText_2 : decode cX12_startText 2 = .ok (.putfield 363, 3) := by decide +kernel
theorem dX12_startText_5 : decode cX12_startText 5 = .ok (.aload_n 0, 1) := by decide +kernel
theorem dX12_startText_6 : decode cX12_startText 6 = .ok (.iconst 0, 1) := by decide +kernel
theorem dX12_startText_7 : decode cX12_startText 7 = .ok (.putfield 369, 3) := by decide +kernel
theorem dX12_startText_10 : decode cX12_startText 10 = .ok (.aload_n 0, 1) := by decide +kernel
theorem dX12_startText_11 : decode cX12_startText 11 = .ok (.iconst 0, 1) := by decide +kernel
theorem dX12_startText_12 : decode cX12_startText 12 = .ok (.putfield 384, 3) := by decide +kernel
theorem dX12_startText_15 : decode cX12_startText 15 = .ok (.aload_n 0, 1) := by decide +kernel
theorem dX12_startText_16 : decode cX12_startText 16 = .ok (.iconst 0, 1) := by decide +kernel
theorem dX12_startText_17 : decode cX12_startText 17 = .ok (.putfield 387, 3) := by decide +kernel
theorem dX12_startText_20 : decode cX12_startText 20 = .ok (.aload_n 0, 1) := by decide +kernel
theorem dX12_startText_21 : decode cX12_startText 21 = .ok (.invokevirtual 390, 3) := by decide +kernel
theorem dX12_startText_24 : decode cX12_startText 24 = .ok (.return_, 1) := by decide +kernel
set_option maxRecDepth 100000 in
theorem sp_X12_startText (G : MG) (hG : (g_l G).stackTraces = false) (d : Nat) (hd : 3 ≤ d)   (σ : MsSt) (l0 : Nat) (l1 : Int32) (h0 : ms_kd l0 = 13) : MsSpec G mX12_startText d 0 0 [.ref l0, .int l1] σ ms_wv (f_X12_startText σ l0 l1) := by
  refine ms_start (by decide +kernel) rfl rfl (Nat.le_of_ble_eq_true rfl) ?_
  show TrO G mX12_startText d 0 0 0 0 ms_wv 0 [(0, .ref l0), (1, .int l1)] [] σ (ms_nm (ms_si σ l0 28 l1) fun s1 => ms_nm (ms_si s1 l0 29 0) fun s2 => ms_nm (ms_si s2 l0 32 0) fun s3 => ms_nm (ms_si s3 l0 35 0) fun s4 => (f_X12_scan s4 l0).bind fun s5 => some s5)
  refine tr_aload_n (i := 0) dX12_startText_0 rfl ?_
  refine tr_iload_n (i := 1) dX12_startText_1 rfl ?_
  refine tr_putI 12 h0 fl_X12_363 (by decide +kernel) dX12_startText_2 ?_
  refine ms_ltS (fun s1 => ?_)
  refine tr_aload_n (i := 0) dX12_startText_5 rfl ?_
  refine tr_iconst (v := 0) dX12_startText_6 (by decide +kernel) ?_
  refine tr_putI 12 h0 fl_X12_369 (by decide +kernel) dX12_startText_7 ?_
  refine ms_ltS (fun s2 => ?_)
  refine tr_aload_n (i := 0) dX12_startText_10 rfl ?_
  refine tr_iconst (v := 0) dX12_startText_11 (by decide +kernel) ?_
  refine tr_putI 12 h0 fl_X12_384 (by decide +kernel) dX12_startText_12 ?_
  refine ms_ltS (fun s3 => ?_)
  refine tr_aload_n (i := 0) dX12_startText_15 rfl ?_
  refine tr_iconst (v := 0) dX12_startText_16 (by decide +kernel) ?_
  refine tr_putI 12 h0 fl_X12_387 (by decide +kernel) dX12_startText_17 ?_
  refine ms_ltS (fun s4 => ?_)
  refine tr_aload_n (i := 0) dX12_startText_20 rfl ?_
  refine tr_c_wv (ms_cV (rest := []) (al := []) 12 (sp_X12_scan G hG (d - 1) (by omega) s4 l0 h0) h0 (by decide +kernel) kl_X12_390 fv_X12_scan dX12_startText_21 (show _ = some 0 by decide +kernel) (by omega) (Nat.le_of_ble_eq_true rfl) (by decide) (by decide)) (fun s5 => ?_)
  exact tr_vret rfl rfl (by decide) (by decide) dX12_startText_24
theorem dX12_finish_0 : decode cX12_finish 0 = .ok (.aload_n 0, 1) := by decide +kernel
theorem dX12_finish_1 : decode cX12_finish 1 = .ok (.iconst 0, 1) := by decide +kernel
theorem dX12_finish_2 : decode cX12_finish 2 = .ok (.putfield 360, 3) := by decide +kernel
theorem dX12_finish_5 : decode cX12_finish 5 = .ok (.aload_n 0, 1) := by decide +kernel
theorem dX12_finish_6 : decode cX12_finish 6 = .ok (.aload_n 0, 1) := by decide +kernel
theorem dX12_finish_7 : decode cX12_finish 7 = .ok (.getfield 384, 3) := by decide +kernel
theorem dX12_finish_10 : decode cX12_finish 10 = .ok (.ifCond .ne 7, 3) := by decide +kernel
theorem dX12_finish_13 : decode cX12_finish 13 = .ok (.iconst (-1), 1) := by decide +kernel
theorem dX12_finish_14 : decode cX12_finish 14 = .ok (.goto 7, 3) := by decide +kernel
theorem dX12_finish_17 : decode cX12_finish 17 = .ok (.aload_n 0, 1) := by decide +kernel
theorem dX12_finish_18 : decode cX12_finish 18 = .ok (.getfield 393, 3) := by decide +kernel
theorem dX12_finish_21 : decode cX12_finish 21 = .ok (.putfield 65, 3) := by decide +kernel
theorem dX12_finish_24 : decode cX12_finish 24 = .ok (.aload_n 0, 1) := by decide +kernel
theorem dX12_finish_25 : decode cX12_finish 25 = .ok (.getfield 384, 3) := by decide +kernel
theorem dX12_finish_28 : decode cX12_finish 28 = .ok (.ireturn, 1) := by decide +kernel
set_option maxRecDepth 100000 in
theorem sp_X12_finish (G : MG) (hG : (g_l G).stackTraces = false) (d : Nat) (hd : 0 ≤ d)   (σ : MsSt) (l0 : Nat) (h0 : ms_kd l0 = 13) : MsSpec G mX12_finish d 0 0 [.ref l0] σ ms_wi (f_X12_finish σ l0) := by
  refine ms_start (by decide +kernel) rfl rfl (Nat.le_of_ble_eq_true rfl) ?_
  show TrO G mX12_finish d 0 0 0 0 ms_wi 0 [(0, .ref l0)] [] σ (ms_nm (ms_si σ l0 27 0) fun s1 => if (ms_i s1 l0 32) = 0 then ms_nm (ms_si s1 l0 34 (-1)) fun s3 => some ((ms_i s3 l0 32), s3) else ms_nm (ms_si s1 l0 34 (ms_i s1 l0 33)) fun s2 => some ((ms_i s2 l0 32), s2))
  refine tr_aload_n (i := 0) dX12_finish_0 rfl ?_
  refine tr_iconst (v := 0) dX12_finish_1 (by decide +kernel) ?_
  refine tr_putI 12 h0 fl_X12_360 (by decide +kernel) dX12_finish_2 ?_
  refine ms_ltS (fun s1 => ?_)
  refine tr_aload_n (i := 0) dX12_finish_5 rfl ?_
  refine tr_aload_n (i := 0) dX12_finish_6 rfl ?_
  refine tr_getI 12 h0 fl_X12_384 (by decide +kernel) dX12_finish_7 ?_
  refine tr_ifne (o := none) (tgt := 17) dX12_finish_10 (by decide) ?_ ?_
  · refine tr_aload_n (i := 0) dX12_finish_17 rfl ?_
    refine tr_getI 12 h0 fl_X12_393 (by decide +kernel) dX12_finish_18 ?_
    refine tr_putI 12 h0 fl_X12_65 (by decide +kernel) dX12_finish_21 ?_
    refine ms_ltS (fun s2 => ?_)
    refine tr_aload_n (i := 0) dX12_finish_24 rfl ?_
    refine tr_getI 12 h0 fl_X12_384 (by decide +kernel) dX12_finish_25 ?_
    exact tr_iret rfl rfl (by decide) (by decide) dX12_finish_28
  · refine tr_iconst (v := (-1)) dX12_finish_13 (by decide +kernel) ?_
    refine tr_goto (tgt := 21) dX12_finish_14 (by decide) ?_
    refine tr_putI 12 h0 fl_X12_65 (by decide +kernel) dX12_finish_21 ?_
    refine ms_ltS (fun s3 => ?_)
    refine tr_aload_n (i := 0) dX12_finish_24 rfl ?_
    refine tr_getI 12 h0 fl_X12_384 (by decide +kernel) dX12_finish_25 ?_
    exact tr_iret rfl rfl (by decide) (by decide) dX12_finish_28
theorem dX12_flaw_0 : decode cX12_flaw 0 = .ok (.aload_n 0, 1) := by decide +kernel
theorem dX12_flaw_1 : decode cX12_flaw 1 = .ok (.getfield 384, 3) := by decide +kernel
theorem dX12_flaw_4 : decode cX12_flaw 4 = .ok (.ifCond .ne 16, 3) := by decide +kernel
theorem dX12_flaw_7 : decode cX12_flaw 7 = .ok (.aload_n 0, 1) := by decide +kernel
theorem dX12_flaw_8 : decode cX12_flaw 8 = .ok (.iload_n 1, 1) := by decide +kernel
theorem dX12_flaw_9 : decode cX12_flaw 9 = .ok (.putfield 384, 3) := by decide +kernel
theorem dX12_flaw_12 : decode cX12_flaw 12 = .ok (.aload_n 0, 1) := by decide +kernel
theorem dX12_flaw_13 : decode cX12_flaw 13 = .ok (.aload_n 0, 1) := by decide +kernel
theorem dX12_flaw_14 : decode cX12_flaw 14 = .ok (.getfield 372, 3) := by decide +kernel
theorem dX12_flaw_17 : decode cX12_flaw 17 = .ok (.putfield 393, 3) := by decide +kernel
theorem dX12_flaw_20 : decode cX12_flaw 20 = .ok (.return_, 1) := by decide +kernel
set_option maxRecDepth 100000 in
theorem sp_X12_flaw (G : MG) (hG : (g_l G).stackTraces = false) (d : Nat) (hd : 0 ≤ d)   (σ : MsSt) (l0 : Nat) (l1 : Int32) (h0 : ms_kd l0 = 13) : MsSpec G mX12_flaw d 0 0 [.ref l0, .int l1] σ ms_wv (f_X12_flaw σ l0 l1) := by
  refine ms_start (by decide +kernel) rfl rfl (Nat.le_of_ble_eq_true rfl) ?_
  show TrO G mX12_flaw d 0 0 0 0 ms_wv 0 [(0, .ref l0), (1, .int l1)] [] σ (if (ms_i σ l0 32) = 0 then ms_nm (ms_si σ l0 32 l1) fun s1 => ms_nm (ms_si s1 l0 33 (ms_i s1 l0 30)) fun s2 => some s2 else some σ)
  refine tr_aload_n (i := 0) dX12_flaw_0 rfl ?_
  refine tr_getI 12 h0 fl_X12_384 (by decide +kernel) dX12_flaw_1 ?_
  refine tr_ifne (o := none) (tgt := 20) dX12_flaw_4 (by decide) ?_ ?_
  · exact tr_vret rfl rfl (by decide) (by decide) dX12_flaw_20
  · refine tr_aload_n (i := 0) dX12_flaw_7 rfl ?_
    refine tr_iload_n (i := 1) dX12_flaw_8 rfl ?_
    refine tr_putI 12 h0 fl_X12_384 (by decide +kernel) dX12_flaw_9 ?_
    refine ms_ltS (fun s1 => ?_)
    refine tr_aload_n (i := 0) dX12_flaw_12 rfl ?_
    refine tr_aload_n (i := 0) dX12_flaw_13 rfl ?_
    refine tr_getI 12 h0 fl_X12_372 (by decide +kernel) dX12_flaw_14 ?_
    refine tr_putI 12 h0 fl_X12_393 (by decide +kernel) dX12_flaw_17 ?_
    refine ms_ltS (fun s2 => ?_)
    exact tr_vret rfl rfl (by decide) (by decide) dX12_flaw_20
theorem dX12_check_0 : decode cX12_check 0 = .ok (.iload_n 1, 1) := by decide +kernel
theorem dX12_check_1 : decode cX12_check 1 = .ok (.ifCond .ne 8, 3) := by decide +kernel
theorem dX12_check_4 : decode cX12_check 4 = .ok (.aload_n 0, 1) := by decide +kernel
theorem dX12_check_5 : decode cX12_check 5 = .ok (.iload_n 2, 1) := by decide +kernel
theorem dX12_check_6 : decode cX12_check 6 = .ok (.invokevirtual 396, 3) := by decide +kernel
theorem dX12_check_9 : decode cX12_check 9 = .ok (.return_, 1) := by decide +kernel
set_option maxRecDepth 100000 in
theorem sp_X12_check (G : MG) (hG : (g_l G).stackTraces = false) (d : Nat) (hd : 1 ≤ d)   (σ : MsSt) (l0 : Nat) (l1 : Int32) (l2 : Int32) (h0 : ms_kd l0 = 13) : MsSpec G mX12_check d 0 0 [.ref l0, .int l1, .int l2] σ ms_wv (f_X12_check σ l0 l1 l2) := by
  refine ms_start (by decide +kernel) rfl rfl (Nat.le_of_ble_eq_true rfl) ?_
  show TrO G mX12_check d 0 0 0 0 ms_wv 0 [(0, .ref l0), (1, .int l1), (2, .int l2)] [] σ (if l1 = 0 then (f_X12_flaw σ l0 l2).bind fun s1 => some s1 else some σ)
  refine tr_iload_n (i := 1) dX12_check_0 rfl ?_
  refine tr_ifne (o := none) (tgt := 9) dX12_check_1 (by decide) ?_ ?_
  · exact tr_vret rfl rfl (by decide) (by decide) dX12_check_9
  · refine tr_aload_n (i := 0) dX12_check_4 rfl ?_
    refine tr_iload_n (i := 2) dX12_check_5 rfl ?_
    refine tr_c_wv (ms_cV (rest := []) (al := [.int l2]) 12 (sp_X12_flaw G hG (d - 1) (by omega) σ l0 l2 h0) h0 (by decide +kernel) kl_X12_396 fv_X12_flaw dX12_check_6 (show _ = some 1 by decide +kernel) (by omega) (Nat.le_of_ble_eq_true rfl) (by decide) (by decide)) (fun s1 => ?_)
    exact tr_vret rfl rfl (by decide) (by decide) dX12_check_9
theorem dX12_advance_0 : decode cX12_advance 0 = .ok (.aload_n 0, 1) := by decide +kernel
theorem dX12_advance_1 : decode cX12_advance 1 = .ok (.getfield 384, 3) := by decide +kernel
theorem dX12_advance_4 : decode cX12_advance 4 = .ok (.ifCond .ne 7, 3) := by decide +kernel
theorem dX12_advance_7 : decode cX12_advance 7 = .ok (.aload_n 0, 1) := by decide +kernel
theorem dX12_advance_8 : decode cX12_advance 8 = .ok (.invokevirtual 390, 3) := by decide +kernel
theorem dX12_advance_11 : decode cX12_advance 11 = .ok (.return_, 1) := by decide +kernel
set_option maxRecDepth 100000 in
theorem sp_X12_advance (G : MG) (hG : (g_l G).stackTraces = false) (d : Nat) (hd : 3 ≤ d)   (σ : MsSt) (l0 : Nat) (h0 : ms_kd l0 = 13) : MsSpec G mX12_advance d 0 0 [.ref l0] σ ms_wv (f_X12_advance σ l0) := by
  refine ms_start (by decide +kernel) rfl rfl (Nat.le_of_ble_eq_true rfl) ?_
  show TrO G mX12_advance d 0 0 0 0 ms_wv 0 [(0, .ref l0)] [] σ (if (ms_i σ l0 32) = 0 then (f_X12_scan σ l0).bind fun s1 => some s1 else some σ)
  refine tr_aload_n (i := 0) dX12_advance_0 rfl ?_
  refine tr_getI 12 h0 fl_X12_384 (by decide +kernel) dX12_advance_1 ?_
  refine tr_ifne (o := none) (tgt := 11) dX12_advance_4 (by decide) ?_ ?_
  · exact tr_vret rfl rfl (by decide) (by decide) dX12_advance_11
  · refine tr_aload_n (i := 0) dX12_advance_7 rfl ?_
    refine tr_c_wv (ms_cV (rest := []) (al := []) 12 (sp_X12_scan G hG (d - 1) (by omega) σ l0 h0) h0 (by decide +kernel) kl_X12_390 fv_X12_scan dX12_advance_8 (show _ = some 0 by decide +kernel) (by omega) (Nat.le_of_ble_eq_true rfl) (by decide) (by decide)) (fun s1 => ?_)
    exact tr_vret rfl rfl (by decide) (by decide) dX12_advance_11
theorem dX12_isSymbol_0 : decode cX12_isSymbol 0 = .ok (.aload_n 0, 1) := by decide +kernel
theorem dX12_isSymbol_1 : decode cX12_isSymbol 1 = .ok (.getfield 384, 3) := by decide +kernel
theorem dX12_isSymbol_4 : decode cX12_isSymbol 4 = .ok (.ifCond .ne 28, 3) := by decide +kernel
theorem dX12_isSymbol_7 : decode cX12_isSymbol 7 = .ok (.aload_n 0, 1) := by decide +kernel
theorem dX12_isSymbol_8 : decode cX12_isSymbol 8 = .ok (.getfield 375, 3) := by decide +kernel
theorem dX12_isSymbol_11 : decode cX12_isSymbol 11 = .ok (.iconst 3, 1) := by decide +kernel
theorem dX12_isSymbol_12 : decode cX12_isSymbol 12 = .ok (.if_icmp .ne 20, 3) := by decide +kernel
theorem dX12_isSymbol_15 : decode cX12_isSymbol 15 = .ok (.aload_n 0, 1) := by decide +kernel
theorem dX12_isSymbol_16 : decode cX12_isSymbol 16 = .ok (.getfield 62, 3) := by decide +kernel
theorem dX12_isSymbol_19 : decode cX12_isSymbol 19 = .ok (.aload_n 0, 1) := by decide +kernel
theorem dX12_isSymbol_20 : decode cX12_isSymbol 20 = .ok (.getfield 372, 3) := by decide +kernel
theorem dX12_isSymbol_23 : decode cX12_isSymbol 23 = .ok (.iaload, 1) := by decide +kernel
theorem dX12_isSymbol_24 : decode cX12_isSymbol 24 = .ok (.iload_n 1, 1) := by decide +kernel
theorem dX12_isSymbol_25 : decode cX12_isSymbol 25 = .ok (.if_icmp .ne 7, 3) := by decide +kernel
theorem dX12_isSymbol_28 : decode cX12_isSymbol 28 = .ok (.iconst 1, 1) := by decide +kernel
theorem dX12_isSymbol_29 : decode cX12_isSymbol 29 = .ok (.goto 4, 3) := by decide +kernel
theorem dX12_isSymbol_32 : decode cX12_isSymbol 32 = .ok (.iconst 0, 1) := by decide +kernel
theorem dX12_isSymbol_33 : decode cX12_isSymbol 33 = .ok (.ireturn, 1) := by decide +kernel
set_option maxRecDepth 100000 in
theorem sp_X12_isSymbol (G : MG) (hG : (g_l G).stackTraces = false) (d : Nat) (hd : 0 ≤ d)   (σ : MsSt) (l0 : Nat) (l1 : Int32) (h0 : ms_kd l0 = 13) : MsSpec G mX12_isSymbol d 0 0 [.ref l0, .int l1] σ (ms_ki σ) (f_X12_isSymbol σ l0 l1) := by
  refine ms_start (by decide +kernel) rfl rfl (Nat.le_of_ble_eq_true rfl) ?_
  show TrO G mX12_isSymbol d 0 0 0 0 (ms_ki σ) 0 [(0, .ref l0), (1, .int l1)] [] σ (if (ms_i σ l0 32) = 0 then if (ms_i σ l0 31) = 3 then (ms_ald σ (ms_rf l0 26) (ms_i σ l0 30)).bind fun v1 => if v1 = l1 then some 1 else some 0 else some 0 else some 0)
  refine tr_aload_n (i := 0) dX12_isSymbol_0 rfl ?_
  refine tr_getI 12 h0 fl_X12_384 (by decide +kernel) dX12_isSymbol_1 ?_
  refine tr_ifne (o := none) (tgt := 32) dX12_isSymbol_4 (by decide) ?_ ?_
  · refine tr_iconst (v := 0) dX12_isSymbol_32 (by decide +kernel) ?_
    exact tr_zret rfl (by decide +kernel) rfl (by decide) (by decide) dX12_isSymbol_33
  · refine tr_aload_n (i := 0) dX12_isSymbol_7 rfl ?_
    refine tr_getI 12 h0 fl_X12_375 (by decide +kernel) dX12_isSymbol_8 ?_
    refine tr_iconst (v := 3) dX12_isSymbol_11 (by decide +kernel) ?_
    refine tr_icne (o := none) (tgt := 32) dX12_isSymbol_12 (by decide) ?_ ?_
    · refine tr_iconst (v := 0) dX12_isSymbol_32 (by decide +kernel) ?_
      exact tr_zret rfl (by decide +kernel) rfl (by decide) (by decide) dX12_isSymbol_33
    · refine tr_aload_n (i := 0) dX12_isSymbol_15 rfl ?_
      refine tr_getR 12 h0 fl_X12_62 (by decide +kernel) dX12_isSymbol_16 ?_
      refine tr_aload_n (i := 0) dX12_isSymbol_19 rfl ?_
      refine tr_getI 12 h0 fl_X12_372 (by decide +kernel) dX12_isSymbol_20 ?_
      refine tr_ald (rk_12_26 h0) dX12_isSymbol_23 (fun v1 => ?_)
      refine tr_iload_n (i := 1) dX12_isSymbol_24 rfl ?_
      refine tr_icne (o := none) (tgt := 32) dX12_isSymbol_25 (by decide) ?_ ?_
      · refine tr_iconst (v := 0) dX12_isSymbol_32 (by decide +kernel) ?_
        exact tr_zret rfl (by decide +kernel) rfl (by decide) (by decide) dX12_isSymbol_33
      · refine tr_iconst (v := 1) dX12_isSymbol_28 (by decide +kernel) ?_
        refine tr_goto (tgt := 33) dX12_isSymbol_29 (by decide) ?_
        exact tr_zret rfl (by decide +kernel) rfl (by decide) (by decide) dX12_isSymbol_33
theorem dX12_isWord_0 : decode cX12_isWord 0 = .ok (.aload_n 0, 1) := by decide +kernel
theorem dX12_isWord_1 : decode cX12_isWord 1 = .ok (.getfield 384, 3) := by decide +kernel
theorem dX12_isWord_4 : decode cX12_isWord 4 = .ok (.ifCond .ne 31, 3) := by decide +kernel
theorem dX12_isWord_7 : decode cX12_isWord 7 = .ok (.aload_n 0, 1) := by decide +kernel
theorem dX12_isWord_8 : decode cX12_isWord 8 = .ok (.getfield 375, 3) := by decide +kernel
theorem dX12_isWord_11 : decode cX12_isWord 11 = .ok (.iconst 1, 1) := by decide +kernel
theorem dX12_isWord_12 : decode cX12_isWord 12 = .ok (.if_icmp .ne 23, 3) := by decide +kernel
theorem dX12_isWord_15 : decode cX12_isWord 15 = .ok (.aload_n 1, 1) := by decide +kernel
theorem dX12_isWord_16 : decode cX12_isWord 16 = .ok (.invokevirtual 399, 3) := by decide +kernel
theorem dX12_isWord_19 : decode cX12_isWord 19 = .ok (.aload_n 0, 1) := by decide +kernel
theorem dX12_isWord_20 : decode cX12_isWord 20 = .ok (.getfield 369, 3) := by decide +kernel
theorem dX12_isWord_23 : decode cX12_isWord 23 = .ok (.aload_n 0, 1) := by decide +kernel
theorem dX12_isWord_24 : decode cX12_isWord 24 = .ok (.getfield 372, 3) := by decide +kernel
theorem dX12_isWord_27 : decode cX12_isWord 27 = .ok (.isub, 1) := by decide +kernel
theorem dX12_isWord_28 : decode cX12_isWord 28 = .ok (.if_icmp .ne 7, 3) := by decide +kernel
theorem dX12_isWord_31 : decode cX12_isWord 31 = .ok (.iconst 1, 1) := by decide +kernel
theorem dX12_isWord_32 : decode cX12_isWord 32 = .ok (.goto 4, 3) := by decide +kernel
theorem dX12_isWord_35 : decode cX12_isWord 35 = .ok (.iconst 0, 1) := by decide +kernel
theorem dX12_isWord_36 : decode cX12_isWord 36 = .ok (.istore_n 2, 1) := by decide +kernel
theorem dX12_isWord_37 : decode cX12_isWord 37 = .ok (.iconst 0, 1) := by decide +kernel
theorem dX12_isWord_38 : decode cX12_isWord 38 = .ok (.istore_n 3, 1) := by decide +kernel
theorem dX12_isWord_39 : decode cX12_isWord 39 = .ok (.iload_n 2, 1) := by decide +kernel
theorem dX12_isWord_40 : decode cX12_isWord 40 = .ok (.ifCond .eq 42, 3) := by decide +kernel
theorem dX12_isWord_43 : decode cX12_isWord 43 = .ok (.iload_n 3, 1) := by decide +kernel
theorem dX12_isWord_44 : decode cX12_isWord 44 = .ok (.aload_n 1, 1) := by decide +kernel
theorem dX12_isWord_45 : decode cX12_isWord 45 = .ok (.invokevirtual 399, 3) := by decide +kernel
theorem dX12_isWord_48 : decode cX12_isWord 48 = .ok (.if_icmp .ge 34, 3) := by decide +kernel
theorem dX12_isWord_51 : decode cX12_isWord 51 = .ok (.aload_n 1, 1) := by decide +kernel
theorem dX12_isWord_52 : decode cX12_isWord 52 = .ok (.iload_n 3, 1) := by decide +kernel
theorem dX12_isWord_53 : decode cX12_isWord 53 = .ok (.invokevirtual 402, 3) := by decide +kernel
theorem dX12_isWord_56 : decode cX12_isWord 56 = .ok (.aload_n 0, 1) := by decide +kernel
theorem dX12_isWord_57 : decode cX12_isWord 57 = .ok (.getfield 62, 3) := by decide +kernel
theorem dX12_isWord_60 : decode cX12_isWord 60 = .ok (.aload_n 0, 1) := by decide +kernel
theorem dX12_isWord_61 : decode cX12_isWord 61 = .ok (.getfield 372, 3) := by decide +kernel
theorem dX12_isWord_64 : decode cX12_isWord 64 = .ok (.iload_n 3, 1) := by decide +kernel
theorem dX12_isWord_65 : decode cX12_isWord 65 = .ok (.iadd, 1) := by decide +kernel
theorem dX12_isWord_66 : decode cX12_isWord 66 = .ok (.iaload, 1) := by decide +kernel
theorem dX12_isWord_67 : decode cX12_isWord 67 = .ok (.if_icmp .ne 7, 3) := by decide +kernel
theorem dX12_isWord_70 : decode cX12_isWord 70 = .ok (.iconst 1, 1) := by decide +kernel
theorem dX12_isWord_71 : decode cX12_isWord 71 = .ok (.goto 4, 3) := by decide +kernel
theorem dX12_isWord_74 : decode cX12_isWord 74 = .ok (.iconst 0, 1) := by decide +kernel
theorem dX12_isWord_75 : decode cX12_isWord 75 = .ok (.istore_n 2, 1) := by decide +kernel
theorem dX12_isWord_76 : decode cX12_isWord 76 = .ok (.iinc 3 1, 3) := by decide +kernel
theorem dX12_isWord_79 : decode cX12_isWord 79 = .ok (.goto (-40), 3) := by decide +kernel
theorem dX12_isWord_82 : decode cX12_isWord 82 = .ok (.iload_n 2, 1) := by decide +kernel
theorem dX12_isWord_83 : decode cX12_isWord 83 = .ok (.ireturn, 1) := by decide +kernel
set_option maxRecDepth 100000 in
theorem t_X12_isWord_39 (G : MG) (hG : (g_l G).stackTraces = false) (d : Nat) (hd : 4 ≤ d)   (σ : MsSt)  : ∀ (n : Nat) (l0 : Nat) (l1 : Nat) (l2 : Int32) (l3 : Int32) (h0 : ms_kd l0 = 13) (h1 : ms_isS l1), TrO G mX12_isWord d 0 0 0 0 (ms_ki σ) 39 [(0, .ref l0), (1, .ref l1), (2, .int l2), (3, .int l3)] [] σ (f_X12_isWord_39 σ n l0 l1 l2 l3) := by
  intro n
  induction n with
  | zero => exact fun _ _ _ _ _ _ => tr_none
  | succ n ih =>
    intro l0 l1 l2 l3 h0 h1
    show TrO G mX12_isWord d 0 0 0 0 (ms_ki σ) 39 [(0, .ref l0), (1, .ref l1), (2, .int l2), (3, .int l3)] [] σ (if l2 = 0 then (ms_bz l2).bind fun v1 => some v1 else (f_J0_length_8abf5 σ l1).bind fun v2 => if l3 < v2 then (f_J0_charAt_5068e σ l1 l3).bind fun v4 => (ms_ald σ (ms_rf l0 26) ((ms_i σ l0 30) + l3)).bind fun v5 => if v4 = v5 then (f_X12_isWord_39 σ n) l0 l1 1 (l3 + 1) else (f_X12_isWord_39 σ n) l0 l1 0 (l3 + 1) else (ms_bz l2).bind fun v3 => some v3)
    refine tr_iload_n (i := 2) dX12_isWord_39 rfl ?_
    refine tr_ifeq (o := none) (tgt := 82) dX12_isWord_40 (by decide) ?_ ?_
    · refine tr_iload_n (i := 2) dX12_isWord_82 rfl ?_
      exact tr_bret rfl rfl rfl (by decide) (by decide) dX12_isWord_83
    · refine tr_iload_n (i := 3) dX12_isWord_43 rfl ?_
      refine tr_aload_n (i := 1) dX12_isWord_44 rfl ?_
      refine tr_c_i (ms_cVs (rest := [.int l3]) (al := []) (sp_J0_length_8abf5 G hG (d - 1) (by omega) σ l1 h1) rfl h1 kl_X12_399 fv_J0_length_8abf5 dX12_isWord_45 (show _ = some 0 by decide +kernel) (by omega) (Nat.le_of_ble_eq_true rfl) (by decide) (by decide)) (fun v2 => ?_)
      refine tr_icge (o := none) (tgt := 82) dX12_isWord_48 (by decide) ?_ ?_
      · refine tr_iload_n (i := 2) dX12_isWord_82 rfl ?_
        exact tr_bret rfl rfl rfl (by decide) (by decide) dX12_isWord_83
      · refine tr_aload_n (i := 1) dX12_isWord_51 rfl ?_
        refine tr_iload_n (i := 3) dX12_isWord_52 rfl ?_
        refine tr_c_i (ms_cVs (rest := []) (al := [.int l3]) (sp_J0_charAt_5068e G hG (d - 1) (by omega) σ l1 l3 h1) rfl h1 kl_X12_402 fv_J0_charAt_5068e dX12_isWord_53 (show _ = some 1 by decide +kernel) (by omega) (Nat.le_of_ble_eq_true rfl) (by decide) (by decide)) (fun v4 => ?_)
        refine tr_aload_n (i := 0) dX12_isWord_56 rfl ?_
        refine tr_getR 12 h0 fl_X12_62 (by decide +kernel) dX12_isWord_57 ?_
        refine tr_aload_n (i := 0) dX12_isWord_60 rfl ?_
        refine tr_getI 12 h0 fl_X12_372 (by decide +kernel) dX12_isWord_61 ?_
        refine tr_iload_n (i := 3) dX12_isWord_64 rfl ?_
        refine tr_iadd dX12_isWord_65 ?_
        refine tr_ald (rk_12_26 h0) dX12_isWord_66 (fun v5 => ?_)
        refine tr_icne (o := none) (tgt := 74) dX12_isWord_67 (by decide) ?_ ?_
        · refine tr_iconst (v := 0) dX12_isWord_74 (by decide +kernel) ?_
          refine tr_istore_n (lv' := [(0, .ref l0), (1, .ref l1), (2, .int 0), (3, .int l3)]) [1, 2, 0, 3] dX12_isWord_75 (by decide) rfl ?_
          refine tr_iinc (k := 3) (v := (l3 + 1)) (lv' := [(0, .ref l0), (1, .ref l1), (2, .int 0), (3, .int (l3 + 1))]) [1, 2, 3, 0] dX12_isWord_76 rfl rfl (by decide) rfl ?_
          refine tr_goto (tgt := 39) dX12_isWord_79 (by decide) ?_
          exact (fun y0 y1 y2 y3 g0 g1 => ih y0 y1 y2 y3 g0 g1) l0 l1 0 (l3 + 1) h0 h1
        · refine tr_iconst (v := 1) dX12_isWord_70 (by decide +kernel) ?_
          refine tr_goto (tgt := 75) dX12_isWord_71 (by decide) ?_
          refine tr_istore_n (lv' := [(0, .ref l0), (1, .ref l1), (2, .int 1), (3, .int l3)]) [1, 2, 0, 3] dX12_isWord_75 (by decide) rfl ?_
          refine tr_iinc (k := 3) (v := (l3 + 1)) (lv' := [(0, .ref l0), (1, .ref l1), (2, .int 1), (3, .int (l3 + 1))]) [1, 2, 3, 0] dX12_isWord_76 rfl rfl (by decide) rfl ?_
          refine tr_goto (tgt := 39) dX12_isWord_79 (by decide) ?_
          exact (fun y0 y1 y2 y3 g0 g1 => ih y0 y1 y2 y3 g0 g1) l0 l1 1 (l3 + 1) h0 h1
set_option maxRecDepth 100000 in
theorem sp_X12_isWord (G : MG) (hG : (g_l G).stackTraces = false) (d : Nat) (hd : 4 ≤ d)   (σ : MsSt) (l0 : Nat) (l1 : Nat) (h0 : ms_kd l0 = 13) (h1 : ms_isS l1) : MsSpec G mX12_isWord d 0 0 [.ref l0, .ref l1] σ (ms_ki σ) (f_X12_isWord σ l0 l1) := by
  refine ms_start (by decide +kernel) rfl rfl (Nat.le_of_ble_eq_true rfl) ?_
  show TrO G mX12_isWord d 0 0 0 0 (ms_ki σ) 0 [(0, .ref l0), (1, .ref l1)] [] σ (if (ms_i σ l0 32) = 0 then if (ms_i σ l0 31) = 1 then (f_J0_length_8abf5 σ l1).bind fun v6 => if v6 = ((ms_i σ l0 29) - (ms_i σ l0 30)) then f_X12_isWord_39 σ ms_fuel l0 l1 1 0 else f_X12_isWord_39 σ ms_fuel l0 l1 0 0 else f_X12_isWord_39 σ ms_fuel l0 l1 0 0 else f_X12_isWord_39 σ ms_fuel l0 l1 0 0)
  refine tr_aload_n (i := 0) dX12_isWord_0 rfl ?_
  refine tr_getI 12 h0 fl_X12_384 (by decide +kernel) dX12_isWord_1 ?_
  refine tr_ifne (o := none) (tgt := 35) dX12_isWord_4 (by decide) ?_ ?_
  · refine tr_iconst (v := 0) dX12_isWord_35 (by decide +kernel) ?_
    refine tr_istore_n (lv' := [(0, .ref l0), (1, .ref l1), (2, .int 0)]) [1, 2, 0] dX12_isWord_36 (by decide) rfl ?_
    refine tr_iconst (v := 0) dX12_isWord_37 (by decide +kernel) ?_
    refine tr_istore_n (lv' := [(0, .ref l0), (1, .ref l1), (2, .int 0), (3, .int 0)]) [1, 2, 3, 0] dX12_isWord_38 (by decide) rfl ?_
    exact t_X12_isWord_39 G hG d hd σ ms_fuel l0 l1 0 0 h0 h1
  · refine tr_aload_n (i := 0) dX12_isWord_7 rfl ?_
    refine tr_getI 12 h0 fl_X12_375 (by decide +kernel) dX12_isWord_8 ?_
    refine tr_iconst (v := 1) dX12_isWord_11 (by decide +kernel) ?_
    refine tr_icne (o := none) (tgt := 35) dX12_isWord_12 (by decide) ?_ ?_
    · refine tr_iconst (v := 0) dX12_isWord_35 (by decide +kernel) ?_
      refine tr_istore_n (lv' := [(0, .ref l0), (1, .ref l1), (2, .int 0)]) [1, 2, 0] dX12_isWord_36 (by decide) rfl ?_
      refine tr_iconst (v := 0) dX12_isWord_37 (by decide +kernel) ?_
      refine tr_istore_n (lv' := [(0, .ref l0), (1, .ref l1), (2, .int 0), (3, .int 0)]) [1, 2, 3, 0] dX12_isWord_38 (by decide) rfl ?_
      exact t_X12_isWord_39 G hG d hd σ ms_fuel l0 l1 0 0 h0 h1
    · refine tr_aload_n (i := 1) dX12_isWord_15 rfl ?_
      refine tr_c_i (ms_cVs (rest := []) (al := []) (sp_J0_length_8abf5 G hG (d - 1) (by omega) σ l1 h1) rfl h1 kl_X12_399 fv_J0_length_8abf5 dX12_isWord_16 (show _ = some 0 by decide +kernel) (by omega) (Nat.le_of_ble_eq_true rfl) (by decide) (by decide)) (fun v6 => ?_)
      refine tr_aload_n (i := 0) dX12_isWord_19 rfl ?_
      refine tr_getI 12 h0 fl_X12_369 (by decide +kernel) dX12_isWord_20 ?_
      refine tr_aload_n (i := 0) dX12_isWord_23 rfl ?_
      refine tr_getI 12 h0 fl_X12_372 (by decide +kernel) dX12_isWord_24 ?_
      refine tr_isub dX12_isWord_27 ?_
      refine tr_icne (o := none) (tgt := 35) dX12_isWord_28 (by decide) ?_ ?_
      · refine tr_iconst (v := 0) dX12_isWord_35 (by decide +kernel) ?_
        refine tr_istore_n (lv' := [(0, .ref l0), (1, .ref l1), (2, .int 0)]) [1, 2, 0] dX12_isWord_36 (by decide) rfl ?_
        refine tr_iconst (v := 0) dX12_isWord_37 (by decide +kernel) ?_
        refine tr_istore_n (lv' := [(0, .ref l0), (1, .ref l1), (2, .int 0), (3, .int 0)]) [1, 2, 3, 0] dX12_isWord_38 (by decide) rfl ?_
        exact t_X12_isWord_39 G hG d hd σ ms_fuel l0 l1 0 0 h0 h1
      · refine tr_iconst (v := 1) dX12_isWord_31 (by decide +kernel) ?_
        refine tr_goto (tgt := 36) dX12_isWord_32 (by decide) ?_
        refine tr_istore_n (lv' := [(0, .ref l0), (1, .ref l1), (2, .int 1)]) [1, 2, 0] dX12_isWord_36 (by decide) rfl ?_
        refine tr_iconst (v := 0) dX12_isWord_37 (by decide +kernel) ?_
        refine tr_istore_n (lv' := [(0, .ref l0), (1, .ref l1), (2, .int 1), (3, .int 0)]) [1, 2, 3, 0] dX12_isWord_38 (by decide) rfl ?_
        exact t_X12_isWord_39 G hG d hd σ ms_fuel l0 l1 1 0 h0 h1
theorem dX12_accept_0 : decode cX12_accept 0 = .ok (.aload_n 0, 1) := by decide +kernel
theorem dX12_accept_1 : decode cX12_accept 1 = .ok (.aload_n 1, 1) := by decide +kernel
theorem dX12_accept_2 : decode cX12_accept 2 = .ok (.invokevirtual 406, 3) := by decide +kernel
theorem dX12_accept_5 : decode cX12_accept 5 = .ok (.istore_n 2, 1) := by decide +kernel
theorem dX12_accept_6 : decode cX12_accept 6 = .ok (.iload_n 2, 1) := by decide +kernel
theorem dX12_accept_7 : decode cX12_accept 7 = .ok (.ifCond .eq 7, 3) := by decide +kernel
theorem dX12_accept_10 : decode cX12_accept 10 = .ok (.aload_n 0, 1) := by decide +kernel
theorem dX12_accept_11 : decode cX12_accept 11 = .ok (.invokevirtual 390, 3) := by decide +kernel
theorem dX12_accept_14 : decode cX12_accept 14 = .ok (.iload_n 2, 1) := by decide +kernel
theorem dX12_accept_15 : decode cX12_accept 15 = .ok (.ireturn, 1) := by decide +kernel
set_option maxRecDepth 100000 in
theorem sp_X12_accept (G : MG) (hG : (g_l G).stackTraces = false) (d : Nat) (hd : 5 ≤ d)   (σ : MsSt) (l0 : Nat) (l1 : Nat) (h0 : ms_kd l0 = 13) (h1 : ms_isS l1) : MsSpec G mX12_accept d 0 0 [.ref l0, .ref l1] σ ms_wi (f_X12_accept σ l0 l1) := by
  refine ms_start (by decide +kernel) rfl rfl (Nat.le_of_ble_eq_true rfl) ?_
  show TrO G mX12_accept d 0 0 0 0 ms_wi 0 [(0, .ref l0), (1, .ref l1)] [] σ ((f_X12_isWord σ l0 l1).bind fun v1 => if v1 = 0 then (ms_bz v1).bind fun v2 => some (v2, σ) else (f_X12_scan σ l0).bind fun s3 => (ms_bz v1).bind fun v4 => some (v4, s3))
  refine tr_aload_n (i := 0) dX12_accept_0 rfl ?_
  refine tr_aload_n (i := 1) dX12_accept_1 rfl ?_
  refine tr_c_i (ms_cV (rest := []) (al := [.ref l1]) 12 (sp_X12_isWord G hG (d - 1) (by omega) σ l0 l1 h0 h1) h0 (by decide +kernel) kl_X12_406 fv_X12_isWord dX12_accept_2 (show _ = some 1 by decide +kernel) (by omega) (Nat.le_of_ble_eq_true rfl) (by decide) (by decide)) (fun v1 => ?_)
  refine tr_istore_n (lv' := [(0, .ref l0), (2, .int v1)]) [1, 0] dX12_accept_5 (by decide) rfl ?_
  refine tr_iload_n (i := 1) dX12_accept_6 rfl ?_
  refine tr_ifeq (o := none) (tgt := 14) dX12_accept_7 (by decide) ?_ ?_
  · refine tr_iload_n (i := 1) dX12_accept_14 rfl ?_
    exact tr_bret rfl rfl rfl (by decide) (by decide) dX12_accept_15
  · refine tr_aload_n (i := 0) dX12_accept_10 rfl ?_
    refine tr_c_wv (ms_cV (rest := []) (al := []) 12 (sp_X12_scan G hG (d - 1) (by omega) σ l0 h0) h0 (by decide +kernel) kl_X12_390 fv_X12_scan dX12_accept_11 (show _ = some 0 by decide +kernel) (by omega) (Nat.le_of_ble_eq_true rfl) (by decide) (by decide)) (fun s3 => ?_)
    refine tr_iload_n (i := 1) dX12_accept_14 rfl ?_
    exact tr_bret rfl rfl rfl (by decide) (by decide) dX12_accept_15
theorem dX12_expectWord_0 : decode cX12_expectWord 0 = .ok (.aload_n 0, 1) := by decide +kernel
theorem dX12_expectWord_1 : decode cX12_expectWord 1 = .ok (.aload_n 0, 1) := by decide +kernel
theorem dX12_expectWord_2 : decode cX12_expectWord 2 = .ok (.aload_n 1, 1) := by decide +kernel
theorem dX12_expectWord_3 : decode cX12_expectWord 3 = .ok (.invokevirtual 406, 3) := by decide +kernel
theorem dX12_expectWord_6 : decode cX12_expectWord 6 = .ok (.iconst 1, 1) := by decide +kernel
theorem dX12_expectWord_7 : decode cX12_expectWord 7 = .ok (.invokevirtual 410, 3) := by decide +kernel
theorem dX12_expectWord_10 : decode cX12_expectWord 10 = .ok (.aload_n 0, 1) := by decide +kernel
theorem dX12_expectWord_11 : decode cX12_expectWord 11 = .ok (.invokevirtual 414, 3) := by decide +kernel
theorem dX12_expectWord_14 : decode cX12_expectWord 14 = .ok (.return_, 1) := by decide +kernel
set_option maxRecDepth 100000 in
theorem sp_X12_expectWord (G : MG) (hG : (g_l G).stackTraces = false) (d : Nat) (hd : 5 ≤ d)   (σ : MsSt) (l0 : Nat) (l1 : Nat) (h0 : ms_kd l0 = 13) (h1 : ms_isS l1) : MsSpec G mX12_expectWord d 0 0 [.ref l0, .ref l1] σ ms_wv (f_X12_expectWord σ l0 l1) := by
  refine ms_start (by decide +kernel) rfl rfl (Nat.le_of_ble_eq_true rfl) ?_
  show TrO G mX12_expectWord d 0 0 0 0 ms_wv 0 [(0, .ref l0), (1, .ref l1)] [] σ ((f_X12_isWord σ l0 l1).bind fun v1 => (f_X12_check σ l0 v1 1).bind fun s2 => (f_X12_advance s2 l0).bind fun s3 => some s3)
  refine tr_aload_n (i := 0) dX12_expectWord_0 rfl ?_
  refine tr_aload_n (i := 0) dX12_expectWord_1 rfl ?_
  refine tr_aload_n (i := 1) dX12_expectWord_2 rfl ?_
  refine tr_c_i (ms_cV (rest := [.ref l0]) (al := [.ref l1]) 12 (sp_X12_isWord G hG (d - 1) (by omega) σ l0 l1 h0 h1) h0 (by decide +kernel) kl_X12_406 fv_X12_isWord dX12_expectWord_3 (show _ = some 1 by decide +kernel) (by omega) (Nat.le_of_ble_eq_true rfl) (by decide) (by decide)) (fun v1 => ?_)
  refine tr_iconst (v := 1) dX12_expectWord_6 (by decide +kernel) ?_
  refine tr_c_wv (ms_cV (rest := []) (al := [.int v1, .int 1]) 12 (sp_X12_check G hG (d - 1) (by omega) σ l0 v1 1 h0) h0 (by decide +kernel) kl_X12_410 fv_X12_check dX12_expectWord_7 (show _ = some 2 by decide +kernel) (by omega) (Nat.le_of_ble_eq_true rfl) (by decide) (by decide)) (fun s2 => ?_)
  refine tr_aload_n (i := 0) dX12_expectWord_10 rfl ?_
  refine tr_c_wv (ms_cV (rest := []) (al := []) 12 (sp_X12_advance G hG (d - 1) (by omega) s2 l0 h0) h0 (by decide +kernel) kl_X12_414 fv_X12_advance dX12_expectWord_11 (show _ = some 0 by decide +kernel) (by omega) (Nat.le_of_ble_eq_true rfl) (by decide) (by decide)) (fun s3 => ?_)
  exact tr_vret rfl rfl (by decide) (by decide) dX12_expectWord_14
theorem dX12_expect_0 : decode cX12_expect 0 = .ok (.aload_n 0, 1) := by decide +kernel
theorem dX12_expect_1 : decode cX12_expect 1 = .ok (.aload_n 0, 1) := by decide +kernel
theorem dX12_expect_2 : decode cX12_expect 2 = .ok (.iload_n 1, 1) := by decide +kernel
theorem dX12_expect_3 : decode cX12_expect 3 = .ok (.invokevirtual 417, 3) := by decide +kernel
theorem dX12_expect_6 : decode cX12_expect 6 = .ok (.iconst 1, 1) := by decide +kernel
theorem dX12_expect_7 : decode cX12_expect 7 = .ok (.invokevirtual 410, 3) := by decide +kernel
theorem dX12_expect_10 : decode cX12_expect 10 = .ok (.aload_n 0, 1) := by decide +kernel
theorem dX12_expect_11 : decode cX12_expect 11 = .ok (.invokevirtual 414, 3) := by decide +kernel
theorem dX12_expect_14 : decode cX12_expect 14 = .ok (.return_, 1) := by decide +kernel
set_option maxRecDepth 100000 in
theorem sp_X12_expect (G : MG) (hG : (g_l G).stackTraces = false) (d : Nat) (hd : 4 ≤ d)   (σ : MsSt) (l0 : Nat) (l1 : Int32) (h0 : ms_kd l0 = 13) : MsSpec G mX12_expect d 0 0 [.ref l0, .int l1] σ ms_wv (f_X12_expect σ l0 l1) := by
  refine ms_start (by decide +kernel) rfl rfl (Nat.le_of_ble_eq_true rfl) ?_
  show TrO G mX12_expect d 0 0 0 0 ms_wv 0 [(0, .ref l0), (1, .int l1)] [] σ ((f_X12_isSymbol σ l0 l1).bind fun v1 => (f_X12_check σ l0 v1 1).bind fun s2 => (f_X12_advance s2 l0).bind fun s3 => some s3)
  refine tr_aload_n (i := 0) dX12_expect_0 rfl ?_
  refine tr_aload_n (i := 0) dX12_expect_1 rfl ?_
  refine tr_iload_n (i := 1) dX12_expect_2 rfl ?_
  refine tr_c_i (ms_cV (rest := [.ref l0]) (al := [.int l1]) 12 (sp_X12_isSymbol G hG (d - 1) (by omega) σ l0 l1 h0) h0 (by decide +kernel) kl_X12_417 fv_X12_isSymbol dX12_expect_3 (show _ = some 1 by decide +kernel) (by omega) (Nat.le_of_ble_eq_true rfl) (by decide) (by decide)) (fun v1 => ?_)
  refine tr_iconst (v := 1) dX12_expect_6 (by decide +kernel) ?_
  refine tr_c_wv (ms_cV (rest := []) (al := [.int v1, .int 1]) 12 (sp_X12_check G hG (d - 1) (by omega) σ l0 v1 1 h0) h0 (by decide +kernel) kl_X12_410 fv_X12_check dX12_expect_7 (show _ = some 2 by decide +kernel) (by omega) (Nat.le_of_ble_eq_true rfl) (by decide) (by decide)) (fun s2 => ?_)
  refine tr_aload_n (i := 0) dX12_expect_10 rfl ?_
  refine tr_c_wv (ms_cV (rest := []) (al := []) 12 (sp_X12_advance G hG (d - 1) (by omega) s2 l0 h0) h0 (by decide +kernel) kl_X12_414 fv_X12_advance dX12_expect_11 (show _ = some 0 by decide +kernel) (by omega) (Nat.le_of_ble_eq_true rfl) (by decide) (by decide)) (fun s3 => ?_)
  exact tr_vret rfl rfl (by decide) (by decide) dX12_expect_14
theorem dX12_value_0 : decode cX12_value 0 = .ok (.iconst 0, 1) := by decide +kernel
theorem dX12_value_1 : decode cX12_value 1 = .ok (.istore_n 1, 1) := by decide +kernel
theorem dX12_value_2 : decode cX12_value 2 = .ok (.aload_n 0, 1) := by decide +kernel
theorem dX12_value_3 : decode cX12_value 3 = .ok (.getfield 372, 3) := by decide +kernel
theorem dX12_value_6 : decode cX12_value 6 = .ok (.istore_n 2, 1) := by decide +kernel
theorem dX12_value_7 : decode cX12_value 7 = .ok (.iload_n 2, 1) := by decide +kernel
theorem dX12_value_8 : decode cX12_value 8 = .ok (.aload_n 0, 1) := by decide +kernel
theorem dX12_value_9 : decode cX12_value 9 = .ok (.getfield 369, 3) := by decide +kernel
theorem dX12_value_12 : decode cX12_value 12 = .ok (.if_icmp .ge 43, 3) := by decide +kernel
theorem dX12_value_15 : decode cX12_value 15 = .ok (.aload_n 0, 1) := by decide +kernel
theorem dX12_value_16 : decode cX12_value 16 = .ok (.getfield 375, 3) := by decide +kernel
theorem dX12_value_19 : decode cX12_value 19 = .ok (.iconst 2, 1) := by decide +kernel
theorem dX12_value_20 : decode cX12_value 20 = .ok (.if_icmp .ne 35, 3) := by decide +kernel
theorem dX12_value_23 : decode cX12_value 23 = .ok (.ldc2_w 420, 3) := by decide +kernel
theorem dX12_value_26 : decode cX12_value 26 = .ok (.ldc2_w 422, 3) := by decide +kernel
theorem dX12_value_29 : decode cX12_value 29 = .ok (.iload_n 1, 1) := by decide +kernel
theorem dX12_value_30 : decode cX12_value 30 = .ok (.i2l, 1) := by decide +kernel
theorem dX12_value_31 : decode cX12_value 31 = .ok (.lmul, 1) := by decide +kernel
theorem dX12_value_32 : decode cX12_value 32 = .ok (.aload_n 0, 1) := by decide +kernel
theorem dX12_value_33 : decode cX12_value 33 = .ok (.getfield 62, 3) := by decide +kernel
theorem dX12_value_36 : decode cX12_value 36 = .ok (.iload_n 2, 1) := by decide +kernel
theorem dX12_value_37 : decode cX12_value 37 = .ok (.iaload, 1) := by decide +kernel
theorem dX12_value_38 : decode cX12_value 38 = .ok (.i2l, 1) := by decide +kernel
theorem dX12_value_39 : decode cX12_value 39 = .ok (.ladd, 1) := by decide +kernel
theorem dX12_value_40 : decode cX12_value 40 = .ok (.ldc2_w 424, 3) := by decide +kernel
theorem dX12_value_43 : decode cX12_value 43 = .ok (.lsub, 1) := by decide +kernel
theorem dX12_value_44 : decode cX12_value 44 = .ok (.invokestatic 426, 3) := by decide +kernel
theorem dX12_value_47 : decode cX12_value 47 = .ok (.l2i, 1) := by decide +kernel
theorem dX12_value_48 : decode cX12_value 48 = .ok (.istore_n 1, 1) := by decide +kernel
theorem dX12_value_49 : decode cX12_value 49 = .ok (.iinc 2 1, 3) := by decide +kernel
theorem dX12_value_52 : decode cX12_value 52 = .ok (.goto (-45), 3) := by decide +kernel
theorem dX12_value_55 : decode cX12_value 55 = .ok (.iload_n 1, 1) := by decide +kernel
theorem dX12_value_56 : decode cX12_value 56 = .ok (.ireturn, 1) := by decide +kernel
set_option maxRecDepth 100000 in
theorem t_X12_value_7 (G : MG) (hG : (g_l G).stackTraces = false) (d : Nat) (hd : 1 ≤ d)   (σ : MsSt)  : ∀ (n : Nat) (l0 : Nat) (l1 : Int32) (l2 : Int32) (h0 : ms_kd l0 = 13), TrO G mX12_value d 0 0 0 0 (ms_ki σ) 7 [(0, .ref l0), (1, .int l1), (2, .int l2)] [] σ (f_X12_value_7 σ n l0 l1 l2) := by
  intro n
  induction n with
  | zero => exact fun _ _ _ _ => tr_none
  | succ n ih =>
    intro l0 l1 l2 h0
    show TrO G mX12_value d 0 0 0 0 (ms_ki σ) 7 [(0, .ref l0), (1, .int l1), (2, .int l2)] [] σ (if l2 < (ms_i σ l0 29) then if (ms_i σ l0 31) = 2 then (ms_ald σ (ms_rf l0 26) l2).bind fun v1 => ms_nm ((if (((10 * l1.toInt64) + v1.toInt64) - 48) < 2000000000 then (((10 * l1.toInt64) + v1.toInt64) - 48) else 2000000000).toInt32 : Int32) fun v2 => (f_X12_value_7 σ n) l0 v2 (l2 + 1) else some l1 else some l1)
    refine tr_iload_n (i := 2) dX12_value_7 rfl ?_
    refine tr_aload_n (i := 0) dX12_value_8 rfl ?_
    refine tr_getI 12 h0 fl_X12_369 (by decide +kernel) dX12_value_9 ?_
    refine tr_icge (o := none) (tgt := 55) dX12_value_12 (by decide) ?_ ?_
    · refine tr_iload_n (i := 1) dX12_value_55 rfl ?_
      exact tr_iret rfl rfl (by decide) (by decide) dX12_value_56
    · refine tr_aload_n (i := 0) dX12_value_15 rfl ?_
      refine tr_getI 12 h0 fl_X12_375 (by decide +kernel) dX12_value_16 ?_
      refine tr_iconst (v := 2) dX12_value_19 (by decide +kernel) ?_
      refine tr_icne (o := none) (tgt := 55) dX12_value_20 (by decide) ?_ ?_
      · refine tr_iload_n (i := 1) dX12_value_55 rfl ?_
        exact tr_iret rfl rfl (by decide) (by decide) dX12_value_56
      · refine tr_ldcl (v := 2000000000) (List.mem_of_getElem? (i := 2253) (by decide +kernel)) dX12_value_23 ?_
        refine tr_ldcl (v := 10) (List.mem_of_getElem? (i := 2254) (by decide +kernel)) dX12_value_26 ?_
        refine tr_iload_n (i := 1) dX12_value_29 rfl ?_
        refine tr_i2l dX12_value_30 ?_
        refine tr_lmul dX12_value_31 ?_
        refine tr_aload_n (i := 0) dX12_value_32 rfl ?_
        refine tr_getR 12 h0 fl_X12_62 (by decide +kernel) dX12_value_33 ?_
        refine tr_iload_n (i := 2) dX12_value_36 rfl ?_
        refine tr_ald (rk_12_26 h0) dX12_value_37 (fun v1 => ?_)
        refine tr_i2l dX12_value_38 ?_
        refine tr_ladd dX12_value_39 ?_
        refine tr_ldcl (v := 48) (List.mem_of_getElem? (i := 2255) (by decide +kernel)) dX12_value_40 ?_
        refine tr_lsub dX12_value_43 ?_
        refine tr_mminJ (List.mem_of_getElem? (i := 2256) (by decide +kernel)) (List.mem_of_getElem? (i := 2257) (by decide +kernel)) (List.mem_of_getElem? (i := 144) (by decide +kernel)) (List.mem_of_getElem? (i := 2258) (by decide +kernel)) (by omega) (Nat.le_of_ble_eq_true rfl) (by decide) (by decide) dX12_value_44 ?_
        refine tr_l2i dX12_value_47 ?_
        refine ms_ltI (fun v2 => ?_)
        refine tr_istore_n (lv' := [(0, .ref l0), (1, .int v2), (2, .int l2)]) [1, 0, 2] dX12_value_48 (by decide) rfl ?_
        refine tr_iinc (k := 2) (v := (l2 + 1)) (lv' := [(0, .ref l0), (1, .int v2), (2, .int (l2 + 1))]) [1, 2, 0] dX12_value_49 rfl rfl (by decide) rfl ?_
        refine tr_goto (tgt := 7) dX12_value_52 (by decide) ?_
        exact (fun y0 y1 y2 g0 => ih y0 y1 y2 g0) l0 v2 (l2 + 1) h0
set_option maxRecDepth 100000 in
theorem sp_X12_value (G : MG) (hG : (g_l G).stackTraces = false) (d : Nat) (hd : 1 ≤ d)   (σ : MsSt) (l0 : Nat) (h0 : ms_kd l0 = 13) : MsSpec G mX12_value d 0 0 [.ref l0] σ (ms_ki σ) (f_X12_value σ l0) := by
  refine ms_start (by decide +kernel) rfl rfl (Nat.le_of_ble_eq_true rfl) ?_
  show TrO G mX12_value d 0 0 0 0 (ms_ki σ) 0 [(0, .ref l0)] [] σ (f_X12_value_7 σ ms_fuel l0 0 (ms_i σ l0 30))
  refine tr_iconst (v := 0) dX12_value_0 (by decide +kernel) ?_
  refine tr_istore_n (lv' := [(0, .ref l0), (1, .int 0)]) [1, 0] dX12_value_1 (by decide) rfl ?_
  refine tr_aload_n (i := 0) dX12_value_2 rfl ?_
  refine tr_getI 12 h0 fl_X12_372 (by decide +kernel) dX12_value_3 ?_
  refine tr_istore_n (lv' := [(0, .ref l0), (1, .int 0), (2, .int (ms_i σ l0 30))]) [1, 2, 0] dX12_value_6 (by decide) rfl ?_
  exact t_X12_value_7 G hG d hd σ ms_fuel l0 0 (ms_i σ l0 30) h0
theorem dX12_readNumber_0 : decode cX12_readNumber 0 = .ok (.aload_n 0, 1) := by decide +kernel
theorem dX12_readNumber_1 : decode cX12_readNumber 1 = .ok (.aload_n 0, 1) := by decide +kernel
theorem dX12_readNumber_2 : decode cX12_readNumber 2 = .ok (.getfield 384, 3) := by decide +kernel
theorem dX12_readNumber_5 : decode cX12_readNumber 5 = .ok (.ifCond .ne 11, 3) := by decide +kernel
theorem dX12_readNumber_8 : decode cX12_readNumber 8 = .ok (.aload_n 0, 1) := by decide +kernel
theorem dX12_readNumber_9 : decode cX12_readNumber 9 = .ok (.getfield 375, 3) := by decide +kernel
theorem dX12_readNumber_12 : decode cX12_readNumber 12 = .ok (.iconst 2, 1) := by decide +kernel
theorem dX12_readNumber_13 : decode cX12_readNumber 13 = .ok (.if_icmp .ne 7, 3) := by decide +kernel
theorem dX12_readNumber_16 : decode cX12_readNumber 16 = .ok (.iconst 1, 1) := by decide +kernel
theorem dX12_readNumber_17 : decode cX12_readNumber 17 = .ok (.goto 4, 3) := by decide +kernel
theorem dX12_readNumber_20 : decode cX12_readNumber 20 = .ok (.iconst 0, 1) := by decide +kernel
theorem dX12_readNumber_21 : decode cX12_readNumber 21 = .ok (.iconst 1, 1) := by decide +kernel
theorem dX12_readNumber_22 : decode cX12_readNumber 22 = .ok (.invokevirtual 410, 3) := by decide +kernel
theorem dX12_readNumber_25 : decode cX12_readNumber 25 = .ok (.aload_n 0, 1) := by decide +kernel
theorem dX12_readNumber_26 : decode cX12_readNumber 26 = .ok (.invokevirtual 429, 3) := by decide +kernel
theorem dX12_readNumber_29 : decode cX12_readNumber 29 = .ok (.istore_n 3, 1) := by decide +kernel
theorem dX12_readNumber_30 : decode cX12_readNumber 30 = .ok (.aload_n 0, 1) := by decide +kernel
theorem dX12_readNumber_31 : decode cX12_readNumber 31 = .ok (.aload_n 0, 1) := by decide +kernel
theorem dX12_readNumber_32 : decode cX12_readNumber 32 = .ok (.getfield 384, 3) := by decide +kernel
theorem dX12_readNumber_35 : decode cX12_readNumber 35 = .ok (.ifCond .ne 15, 3) := by decide +kernel
theorem dX12_readNumber_38 : decode cX12_readNumber 38 = .ok (.iload_n 3, 1) := by decide +kernel
theorem dX12_readNumber_39 : decode cX12_readNumber 39 = .ok (.i2l, 1) := by decide +kernel
theorem dX12_readNumber_40 : decode cX12_readNumber 40 = .ok (.iload_n 1, 1) := by decide +kernel
theorem dX12_readNumber_41 : decode cX12_readNumber 41 = .ok (.i2l, 1) := by decide +kernel
theorem dX12_readNumber_42 : decode cX12_readNumber 42 = .ok (.iload_n 2, 1) := by decide +kernel
theorem dX12_readNumber_43 : decode cX12_readNumber 43 = .ok (.i2l, 1) := by decide +kernel
theorem dX12_readNumber_44 : decode cX12_readNumber 44 = .ok (.invokestatic 110, 3) := by decide +kernel
theorem dX12_readNumber_47 : decode cX12_readNumber 47 = .ok (.ifCond .eq 7, 3) := by decide +kernel
theorem dX12_readNumber_50 : decode cX12_readNumber 50 = .ok (.iconst 1, 1) := by decide +kernel
theorem dX12_readNumber_51 : decode cX12_readNumber 51 = .ok (.goto 4, 3) := by decide +kernel
theorem dX12_readNumber_54 : decode cX12_readNumber 54 = .ok (.iconst 0, 1) := by decide +kernel
theorem dX12_readNumber_55 : decode cX12_readNumber 55 = .ok (.iconst 2, 1) := by decide +kernel
theorem dX12_readNumber_56 : decode cX12_readNumber 56 = .ok (.invokevirtual 410, 3) := by decide +kernel
theorem dX12_readNumber_59 : decode cX12_readNumber 59 = .ok (.aload_n 0, 1) := by decide +kernel
theorem dX12_readNumber_60 : decode cX12_readNumber 60 = .ok (.invokevirtual 414, 3) := by decide +kernel
theorem dX12_readNumber_63 : decode cX12_readNumber 63 = .ok (.aload_n 0, 1) := by decide +kernel
theorem dX12_readNumber_64 : decode cX12_readNumber 64 = .ok (.getfield 384, 3) := by decide +kernel
theorem dX12_readNumber_67 : decode cX12_readNumber 67 = .ok (.ifCond .ne 7, 3) := by decide +kernel
theorem dX12_readNumber_70 : decode cX12_readNumber 70 = .ok (.iload_n 3, 1) := by decide +kernel
theorem dX12_readNumber_71 : decode cX12_readNumber 71 = .ok (.goto 4, 3) := by decide +kernel
theorem dX12_readNumber_74 : decode cX12_readNumber 74 = .ok (.iload_n 1, 1) := by decide +kernel
theorem dX12_readNumber_75 : decode cX12_readNumber 75 = .ok (.ireturn, 1) := by decide +kernel
set_option maxRecDepth 100000 in
theorem t_X12_readNumber_55 (G : MG) (hG : (g_l G).stackTraces = false) (d : Nat) (hd : 4 ≤ d)    (σ : MsSt) (l0 : Nat) (l1 : Int32) (l3 : Int32) (t0 : Int32) (t1 : Nat) (h0 : ms_kd l0 = 13) (ht1 : ms_kd t1 = 13) : TrO G mX12_readNumber d 0 0 0 0 ms_wi 55 [(0, .ref l0), (1, .int l1), (3, .int l3)] [.int t0, .ref t1] σ (f_X12_readNumber_55 σ l0 l1 l3 t0 t1) := by
  show TrO G mX12_readNumber d 0 0 0 0 ms_wi 55 [(0, .ref l0), (1, .int l1), (3, .int l3)] [.int t0, .ref t1] σ ((f_X12_check σ t1 t0 2).bind fun s3 => (f_X12_advance s3 l0).bind fun s4 => if (ms_i s4 l0 32) = 0 then some (l3, s4) else some (l1, s4))
  refine tr_iconst (v := 2) dX12_readNumber_55 (by decide +kernel) ?_
  refine tr_c_wv (ms_cV (rest := []) (al := [.int t0, .int 2]) 12 (sp_X12_check G hG (d - 1) (by omega) σ t1 t0 2 ht1) ht1 (by decide +kernel) kl_X12_410 fv_X12_check dX12_readNumber_56 (show _ = some 2 by decide +kernel) (by omega) (Nat.le_of_ble_eq_true rfl) (by decide) (by decide)) (fun s3 => ?_)
  refine tr_aload_n (i := 0) dX12_readNumber_59 rfl ?_
  refine tr_c_wv (ms_cV (rest := []) (al := []) 12 (sp_X12_advance G hG (d - 1) (by omega) s3 l0 h0) h0 (by decide +kernel) kl_X12_414 fv_X12_advance dX12_readNumber_60 (show _ = some 0 by decide +kernel) (by omega) (Nat.le_of_ble_eq_true rfl) (by decide) (by decide)) (fun s4 => ?_)
  refine tr_aload_n (i := 0) dX12_readNumber_63 rfl ?_
  refine tr_getI 12 h0 fl_X12_384 (by decide +kernel) dX12_readNumber_64 ?_
  refine tr_ifne (o := none) (tgt := 74) dX12_readNumber_67 (by decide) ?_ ?_
  · refine tr_iload_n (i := 1) dX12_readNumber_74 rfl ?_
    exact tr_iret rfl rfl (by decide) (by decide) dX12_readNumber_75
  · refine tr_iload_n (i := 2) dX12_readNumber_70 rfl ?_
    refine tr_goto (tgt := 75) dX12_readNumber_71 (by decide) ?_
    exact tr_iret rfl rfl (by decide) (by decide) dX12_readNumber_75
set_option maxRecDepth 100000 in
theorem t_X12_readNumber_50 (G : MG) (hG : (g_l G).stackTraces = false) (d : Nat) (hd : 4 ≤ d)    (σ : MsSt) (l0 : Nat) (l1 : Int32) (l3 : Int32) (t0 : Nat) (h0 : ms_kd l0 = 13) (ht0 : ms_kd t0 = 13) : TrO G mX12_readNumber d 0 0 0 0 ms_wi 50 [(0, .ref l0), (1, .int l1), (3, .int l3)] [.ref t0] σ (f_X12_readNumber_50 σ l0 l1 l3 t0) := by
  show TrO G mX12_readNumber d 0 0 0 0 ms_wi 50 [(0, .ref l0), (1, .int l1), (3, .int l3)] [.ref t0] σ (f_X12_readNumber_55 σ l0 l1 l3 1 t0)
  refine tr_iconst (v := 1) dX12_readNumber_50 (by decide +kernel) ?_
  refine tr_goto (tgt := 55) dX12_readNumber_51 (by decide) ?_
  exact t_X12_readNumber_55 G hG d hd σ l0 l1 l3 1 t0 h0 ht0
set_option maxRecDepth 100000 in
theorem t_X12_readNumber_21 (G : MG) (hG : (g_l G).stackTraces = false) (d : Nat) (hd : 4 ≤ d)    (σ : MsSt) (l0 : Nat) (l1 : Int32) (l2 : Int32) (t0 : Int32) (t1 : Nat) (h0 : ms_kd l0 = 13) (ht1 : ms_kd t1 = 13) : TrO G mX12_readNumber d 0 0 0 0 ms_wi 21 [(0, .ref l0), (1, .int l1), (2, .int l2)] [.int t0, .ref t1] σ (f_X12_readNumber_21 σ l0 l1 l2 t0 t1) := by
  show TrO G mX12_readNumber d 0 0 0 0 ms_wi 21 [(0, .ref l0), (1, .int l1), (2, .int l2)] [.int t0, .ref t1] σ ((f_X12_check σ t1 t0 1).bind fun s1 => (f_X12_value s1 l0).bind fun v2 => if (ms_i s1 l0 32) = 0 then (f_X12_inRange s1 v2.toInt64 l1.toInt64 l2.toInt64).bind fun v5 => if v5 = 0 then f_X12_readNumber_55 s1 l0 l1 v2 0 l0 else f_X12_readNumber_50 s1 l0 l1 v2 l0 else f_X12_readNumber_50 s1 l0 l1 v2 l0)
  refine tr_iconst (v := 1) dX12_readNumber_21 (by decide +kernel) ?_
  refine tr_c_wv (ms_cV (rest := []) (al := [.int t0, .int 1]) 12 (sp_X12_check G hG (d - 1) (by omega) σ t1 t0 1 ht1) ht1 (by decide +kernel) kl_X12_410 fv_X12_check dX12_readNumber_22 (show _ = some 2 by decide +kernel) (by omega) (Nat.le_of_ble_eq_true rfl) (by decide) (by decide)) (fun s1 => ?_)
  refine tr_aload_n (i := 0) dX12_readNumber_25 rfl ?_
  refine tr_c_i (ms_cV (rest := []) (al := []) 12 (sp_X12_value G hG (d - 1) (by omega) s1 l0 h0) h0 (by decide +kernel) kl_X12_429 fv_X12_value dX12_readNumber_26 (show _ = some 0 by decide +kernel) (by omega) (Nat.le_of_ble_eq_true rfl) (by decide) (by decide)) (fun v2 => ?_)
  refine tr_istore_n (lv' := [(0, .ref l0), (1, .int l1), (2, .int l2), (3, .int v2)]) [1, 2, 3, 0] dX12_readNumber_29 (by decide) rfl ?_
  refine tr_aload_n (i := 0) dX12_readNumber_30 rfl ?_
  refine tr_aload_n (i := 0) dX12_readNumber_31 rfl ?_
  refine tr_getI 12 h0 fl_X12_384 (by decide +kernel) dX12_readNumber_32 ?_
  refine tr_ifne (o := none) (tgt := 50) dX12_readNumber_35 (by decide) ?_ ?_
  · refine tr_weak [0, 1, 3] (lv' := [(0, .ref l0), (1, .int l1), (3, .int v2)]) rfl ?_
    exact t_X12_readNumber_50 G hG d hd s1 l0 l1 v2 l0 h0 h0
  · refine tr_iload_n (i := 3) dX12_readNumber_38 rfl ?_
    refine tr_i2l dX12_readNumber_39 ?_
    refine tr_iload_n (i := 1) dX12_readNumber_40 rfl ?_
    refine tr_i2l dX12_readNumber_41 ?_
    refine tr_iload_n (i := 2) dX12_readNumber_42 rfl ?_
    refine tr_i2l dX12_readNumber_43 ?_
    refine tr_c_i (ms_cS (rest := [.ref l0]) (al := [.long v2.toInt64, .long l1.toInt64, .long l2.toInt64]) (sp_X12_inRange G hG (d - 1) (by omega) s1 v2.toInt64 l1.toInt64 l2.toInt64) kl_X12_110 fs_X12_inRange dX12_readNumber_44 (show _ = some 3 by decide +kernel) (by omega) (Nat.le_of_ble_eq_true rfl) (by decide) (by decide)) (fun v5 => ?_)
    refine tr_ifeq (o := none) (tgt := 54) dX12_readNumber_47 (by decide) ?_ ?_
    · refine tr_iconst (v := 0) dX12_readNumber_54 (by decide +kernel) ?_
      refine tr_weak [0, 1, 3] (lv' := [(0, .ref l0), (1, .int l1), (3, .int v2)]) rfl ?_
      exact t_X12_readNumber_55 G hG d hd s1 l0 l1 v2 0 l0 h0 h0
    · refine tr_weak [0, 1, 3] (lv' := [(0, .ref l0), (1, .int l1), (3, .int v2)]) rfl ?_
      exact t_X12_readNumber_50 G hG d hd s1 l0 l1 v2 l0 h0 h0
set_option maxRecDepth 100000 in
theorem t_X12_readNumber_16 (G : MG) (hG : (g_l G).stackTraces = false) (d : Nat) (hd : 4 ≤ d)    (σ : MsSt) (l0 : Nat) (l1 : Int32) (l2 : Int32) (t0 : Nat) (h0 : ms_kd l0 = 13) (ht0 : ms_kd t0 = 13) : TrO G mX12_readNumber d 0 0 0 0 ms_wi 16 [(0, .ref l0), (1, .int l1), (2, .int l2)] [.ref t0] σ (f_X12_readNumber_16 σ l0 l1 l2 t0) := by
  show TrO G mX12_readNumber d 0 0 0 0 ms_wi 16 [(0, .ref l0), (1, .int l1), (2, .int l2)] [.ref t0] σ (f_X12_readNumber_21 σ l0 l1 l2 1 t0)
  refine tr_iconst (v := 1) dX12_readNumber_16 (by decide +kernel) ?_
  refine tr_goto (tgt := 21) dX12_readNumber_17 (by decide) ?_
  exact t_X12_readNumber_21 G hG d hd σ l0 l1 l2 1 t0 h0 ht0
set_option maxRecDepth 100000 in
theorem sp_X12_readNumber (G : MG) (hG : (g_l G).stackTraces = false) (d : Nat) (hd : 4 ≤ d)   (σ : MsSt) (l0 : Nat) (l1 : Int32) (l2 : Int32) (h0 : ms_kd l0 = 13) : MsSpec G mX12_readNumber d 0 0 [.ref l0, .int l1, .int l2] σ ms_wi (f_X12_readNumber σ l0 l1 l2) := by
  refine ms_start (by decide +kernel) rfl rfl (Nat.le_of_ble_eq_true rfl) ?_
  show TrO G mX12_readNumber d 0 0 0 0 ms_wi 0 [(0, .ref l0), (1, .int l1), (2, .int l2)] [] σ (if (ms_i σ l0 32) = 0 then if (ms_i σ l0 31) = 2 then f_X12_readNumber_16 σ l0 l1 l2 l0 else f_X12_readNumber_21 σ l0 l1 l2 0 l0 else f_X12_readNumber_16 σ l0 l1 l2 l0)
  refine tr_aload_n (i := 0) dX12_readNumber_0 rfl ?_
  refine tr_aload_n (i := 0) dX12_readNumber_1 rfl ?_
  refine tr_getI 12 h0 fl_X12_384 (by decide +kernel) dX12_readNumber_2 ?_
  refine tr_ifne (o := none) (tgt := 16) dX12_readNumber_5 (by decide) ?_ ?_
  · exact t_X12_readNumber_16 G hG d hd σ l0 l1 l2 l0 h0 h0
  · refine tr_aload_n (i := 0) dX12_readNumber_8 rfl ?_
    refine tr_getI 12 h0 fl_X12_375 (by decide +kernel) dX12_readNumber_9 ?_
    refine tr_iconst (v := 2) dX12_readNumber_12 (by decide +kernel) ?_
    refine tr_icne (o := none) (tgt := 20) dX12_readNumber_13 (by decide) ?_ ?_
    · refine tr_iconst (v := 0) dX12_readNumber_20 (by decide +kernel) ?_
      exact t_X12_readNumber_21 G hG d hd σ l0 l1 l2 0 l0 h0 h0
    · exact t_X12_readNumber_16 G hG d hd σ l0 l1 l2 l0 h0 h0
theorem dX12_isNameHere_0 : decode cX12_isNameHere 0 = .ok (.aload_n 0, 1) := by decide +kernel
theorem dX12_isNameHere_1 : decode cX12_isNameHere 1 = .ok (.getfield 384, 3) := by decide +kernel
theorem dX12_isNameHere_4 : decode cX12_isNameHere 4 = .ok (.ifCond .ne 28, 3) := by decide +kernel
theorem dX12_isNameHere_7 : decode cX12_isNameHere 7 = .ok (.aload_n 0, 1) := by decide +kernel
theorem dX12_isNameHere_8 : decode cX12_isNameHere 8 = .ok (.getfield 375, 3) := by decide +kernel
theorem dX12_isNameHere_11 : decode cX12_isNameHere 11 = .ok (.iconst 1, 1) := by decide +kernel
theorem dX12_isNameHere_12 : decode cX12_isNameHere 12 = .ok (.if_icmp .ne 20, 3) := by decide +kernel
theorem dX12_isNameHere_15 : decode cX12_isNameHere 15 = .ok (.aload_n 0, 1) := by decide +kernel
theorem dX12_isNameHere_16 : decode cX12_isNameHere 16 = .ok (.getfield 369, 3) := by decide +kernel
theorem dX12_isNameHere_19 : decode cX12_isNameHere 19 = .ok (.aload_n 0, 1) := by decide +kernel
theorem dX12_isNameHere_20 : decode cX12_isNameHere 20 = .ok (.getfield 372, 3) := by decide +kernel
theorem dX12_isNameHere_23 : decode cX12_isNameHere 23 = .ok (.isub, 1) := by decide +kernel
theorem dX12_isNameHere_24 : decode cX12_isNameHere 24 = .ok (.iconst 4, 1) := by decide +kernel
theorem dX12_isNameHere_25 : decode cX12_isNameHere 25 = .ok (.if_icmp .gt 7, 3) := by decide +kernel
theorem dX12_isNameHere_28 : decode cX12_isNameHere 28 = .ok (.iconst 1, 1) := by decide +kernel
theorem dX12_isNameHere_29 : decode cX12_isNameHere 29 = .ok (.goto 4, 3) := by decide +kernel
theorem dX12_isNameHere_32 : decode cX12_isNameHere 32 = .ok (.iconst 0, 1) := by decide +kernel
theorem dX12_isNameHere_33 : decode cX12_isNameHere 33 = .ok (.istore_n 1, 1) := by decide +kernel
theorem dX12_isNameHere_34 : decode cX12_isNameHere 34 = .ok (.iconst 0, 1) := by decide +kernel
theorem dX12_isNameHere_35 : decode cX12_isNameHere 35 = .ok (.istore_n 2, 1) := by decide +kernel
theorem dX12_isNameHere_36 : decode cX12_isNameHere 36 = .ok (.iload_n 2, 1) := by decide +kernel
theorem dX12_isNameHere_37 : decode cX12_isNameHere 37 = .ok (.aload_n 0, 1) := by decide +kernel
theorem dX12_isNameHere_38 : decode cX12_isNameHere 38 = .ok (.getfield 81, 3) := by decide +kernel
theorem dX12_isNameHere_41 : decode cX12_isNameHere 41 = .ok (.arraylength, 1) := by decide +kernel
theorem dX12_isNameHere_42 : decode cX12_isNameHere 42 = .ok (.if_icmp .ge 32, 3) := by decide +kernel
theorem dX12_isNameHere_45 : decode cX12_isNameHere 45 = .ok (.iload_n 1, 1) := by decide +kernel
theorem dX12_isNameHere_46 : decode cX12_isNameHere 46 = .ok (.ifCond .eq 28, 3) := by decide +kernel
theorem dX12_isNameHere_49 : decode cX12_isNameHere 49 = .ok (.aload_n 0, 1) := by decide +kernel
theorem dX12_isNameHere_50 : decode cX12_isNameHere 50 = .ok (.aload_n 0, 1) := by decide +kernel
theorem dX12_isNameHere_51 : decode cX12_isNameHere 51 = .ok (.getfield 81, 3) := by decide +kernel
theorem dX12_isNameHere_54 : decode cX12_isNameHere 54 = .ok (.iload_n 2, 1) := by decide +kernel
theorem dX12_isNameHere_55 : decode cX12_isNameHere 55 = .ok (.aaload, 1) := by decide +kernel
theorem dX12_isNameHere_56 : decode cX12_isNameHere 56 = .ok (.invokevirtual 406, 3) := by decide +kernel
theorem dX12_isNameHere_59 : decode cX12_isNameHere 59 = .ok (.ifCond .ne 7, 3) := by decide +kernel
theorem dX12_isNameHere_62 : decode cX12_isNameHere 62 = .ok (.iconst 1, 1) := by decide +kernel
theorem dX12_isNameHere_63 : decode cX12_isNameHere 63 = .ok (.goto 4, 3) := by decide +kernel
theorem dX12_isNameHere_66 : decode cX12_isNameHere 66 = .ok (.iconst 0, 1) := by decide +kernel
theorem dX12_isNameHere_67 : decode cX12_isNameHere 67 = .ok (.istore_n 1, 1) := by decide +kernel
theorem dX12_isNameHere_68 : decode cX12_isNameHere 68 = .ok (.iinc 2 1, 3) := by decide +kernel
theorem dX12_isNameHere_71 : decode cX12_isNameHere 71 = .ok (.goto (-35), 3) := by decide +kernel
theorem dX12_isNameHere_74 : decode cX12_isNameHere 74 = .ok (.iload_n 1, 1) := by decide +kernel
theorem dX12_isNameHere_75 : decode cX12_isNameHere 75 = .ok (.ireturn, 1) := by decide +kernel
set_option maxRecDepth 100000 in
theorem t_X12_isNameHere_36 (G : MG) (hG : (g_l G).stackTraces = false) (d : Nat) (hd : 5 ≤ d)   (σ : MsSt)  : ∀ (n : Nat) (l0 : Nat) (l1 : Int32) (l2 : Int32) (h0 : ms_kd l0 = 13), TrO G mX12_isNameHere d 0 0 0 0 (ms_ki σ) 36 [(0, .ref l0), (1, .int l1), (2, .int l2)] [] σ (f_X12_isNameHere_36 σ n l0 l1 l2) := by
  intro n
  induction n with
  | zero => exact fun _ _ _ _ => tr_none
  | succ n ih =>
    intro l0 l1 l2 h0
    show TrO G mX12_isNameHere d 0 0 0 0 (ms_ki σ) 36 [(0, .ref l0), (1, .int l1), (2, .int l2)] [] σ (if l2 < (Int32.ofNat (ms_ln (ms_rf l0 36))) then if l1 = 0 then (ms_bz l1).bind fun v2 => some v2 else (ms_ala (ms_rf l0 36) l2).bind fun v3 => (f_X12_isWord σ l0 v3).bind fun v4 => if v4 = 0 then (f_X12_isNameHere_36 σ n) l0 1 (l2 + 1) else (f_X12_isNameHere_36 σ n) l0 0 (l2 + 1) else (ms_bz l1).bind fun v1 => some v1)
    refine tr_iload_n (i := 2) dX12_isNameHere_36 rfl ?_
    refine tr_aload_n (i := 0) dX12_isNameHere_37 rfl ?_
    refine tr_getR 12 h0 fl_X12_81 (by decide +kernel) dX12_isNameHere_38 ?_
    refine tr_len 7 (rk_12_36 h0) (by decide) dX12_isNameHere_41 ?_
    refine tr_icge (o := none) (tgt := 74) dX12_isNameHere_42 (by decide) ?_ ?_
    · refine tr_iload_n (i := 1) dX12_isNameHere_74 rfl ?_
      exact tr_bret rfl rfl rfl (by decide) (by decide) dX12_isNameHere_75
    · refine tr_iload_n (i := 1) dX12_isNameHere_45 rfl ?_
      refine tr_ifeq (o := none) (tgt := 74) dX12_isNameHere_46 (by decide) ?_ ?_
      · refine tr_iload_n (i := 1) dX12_isNameHere_74 rfl ?_
        exact tr_bret rfl rfl rfl (by decide) (by decide) dX12_isNameHere_75
      · refine tr_aload_n (i := 0) dX12_isNameHere_49 rfl ?_
        refine tr_aload_n (i := 0) dX12_isNameHere_50 rfl ?_
        refine tr_getR 12 h0 fl_X12_81 (by decide +kernel) dX12_isNameHere_51 ?_
        refine tr_iload_n (i := 2) dX12_isNameHere_54 rfl ?_
        refine tr_ala 7 (rk_12_36 h0) (by decide) (by decide) dX12_isNameHere_55 (fun v3 e_v3 => ?_)
        refine tr_c_i (ms_cV (rest := []) (al := [.ref v3]) 12 (sp_X12_isWord G hG (d - 1) (by omega) σ l0 v3 h0 (re_27 (rk_12_36 h0) e_v3)) h0 (by decide +kernel) kl_X12_406 fv_X12_isWord dX12_isNameHere_56 (show _ = some 1 by decide +kernel) (by omega) (Nat.le_of_ble_eq_true rfl) (by decide) (by decide)) (fun v4 => ?_)
        refine tr_ifne (o := none) (tgt := 66) dX12_isNameHere_59 (by decide) ?_ ?_
        · refine tr_iconst (v := 0) dX12_isNameHere_66 (by decide +kernel) ?_
          refine tr_istore_n (lv' := [(0, .ref l0), (1, .int 0), (2, .int l2)]) [1, 0, 2] dX12_isNameHere_67 (by decide) rfl ?_
          refine tr_iinc (k := 2) (v := (l2 + 1)) (lv' := [(0, .ref l0), (1, .int 0), (2, .int (l2 + 1))]) [1, 2, 0] dX12_isNameHere_68 rfl rfl (by decide) rfl ?_
          refine tr_goto (tgt := 36) dX12_isNameHere_71 (by decide) ?_
          exact (fun y0 y1 y2 g0 => ih y0 y1 y2 g0) l0 0 (l2 + 1) h0
        · refine tr_iconst (v := 1) dX12_isNameHere_62 (by decide +kernel) ?_
          refine tr_goto (tgt := 67) dX12_isNameHere_63 (by decide) ?_
          refine tr_istore_n (lv' := [(0, .ref l0), (1, .int 1), (2, .int l2)]) [1, 0, 2] dX12_isNameHere_67 (by decide) rfl ?_
          refine tr_iinc (k := 2) (v := (l2 + 1)) (lv' := [(0, .ref l0), (1, .int 1), (2, .int (l2 + 1))]) [1, 2, 0] dX12_isNameHere_68 rfl rfl (by decide) rfl ?_
          refine tr_goto (tgt := 36) dX12_isNameHere_71 (by decide) ?_
          exact (fun y0 y1 y2 g0 => ih y0 y1 y2 g0) l0 1 (l2 + 1) h0
set_option maxRecDepth 100000 in
theorem sp_X12_isNameHere (G : MG) (hG : (g_l G).stackTraces = false) (d : Nat) (hd : 5 ≤ d)   (σ : MsSt) (l0 : Nat) (h0 : ms_kd l0 = 13) : MsSpec G mX12_isNameHere d 0 0 [.ref l0] σ (ms_ki σ) (f_X12_isNameHere σ l0) := by
  refine ms_start (by decide +kernel) rfl rfl (Nat.le_of_ble_eq_true rfl) ?_
  show TrO G mX12_isNameHere d 0 0 0 0 (ms_ki σ) 0 [(0, .ref l0)] [] σ (if (ms_i σ l0 32) = 0 then if (ms_i σ l0 31) = 1 then if 4 < ((ms_i σ l0 29) - (ms_i σ l0 30)) then f_X12_isNameHere_36 σ ms_fuel l0 0 0 else f_X12_isNameHere_36 σ ms_fuel l0 1 0 else f_X12_isNameHere_36 σ ms_fuel l0 0 0 else f_X12_isNameHere_36 σ ms_fuel l0 0 0)
  refine tr_aload_n (i := 0) dX12_isNameHere_0 rfl ?_
  refine tr_getI 12 h0 fl_X12_384 (by decide +kernel) dX12_isNameHere_1 ?_
  refine tr_ifne (o := none) (tgt := 32) dX12_isNameHere_4 (by decide) ?_ ?_
  · refine tr_iconst (v := 0) dX12_isNameHere_32 (by decide +kernel) ?_
    refine tr_istore_n (lv' := [(0, .ref l0), (1, .int 0)]) [1, 0] dX12_isNameHere_33 (by decide) rfl ?_
    refine tr_iconst (v := 0) dX12_isNameHere_34 (by decide +kernel) ?_
    refine tr_istore_n (lv' := [(0, .ref l0), (1, .int 0), (2, .int 0)]) [1, 2, 0] dX12_isNameHere_35 (by decide) rfl ?_
    exact t_X12_isNameHere_36 G hG d hd σ ms_fuel l0 0 0 h0
  · refine tr_aload_n (i := 0) dX12_isNameHere_7 rfl ?_
    refine tr_getI 12 h0 fl_X12_375 (by decide +kernel) dX12_isNameHere_8 ?_
    refine tr_iconst (v := 1) dX12_isNameHere_11 (by decide +kernel) ?_
    refine tr_icne (o := none) (tgt := 32) dX12_isNameHere_12 (by decide) ?_ ?_
    · refine tr_iconst (v := 0) dX12_isNameHere_32 (by decide +kernel) ?_
      refine tr_istore_n (lv' := [(0, .ref l0), (1, .int 0)]) [1, 0] dX12_isNameHere_33 (by decide) rfl ?_
      refine tr_iconst (v := 0) dX12_isNameHere_34 (by decide +kernel) ?_
      refine tr_istore_n (lv' := [(0, .ref l0), (1, .int 0), (2, .int 0)]) [1, 2, 0] dX12_isNameHere_35 (by decide) rfl ?_
      exact t_X12_isNameHere_36 G hG d hd σ ms_fuel l0 0 0 h0
    · refine tr_aload_n (i := 0) dX12_isNameHere_15 rfl ?_
      refine tr_getI 12 h0 fl_X12_369 (by decide +kernel) dX12_isNameHere_16 ?_
      refine tr_aload_n (i := 0) dX12_isNameHere_19 rfl ?_
      refine tr_getI 12 h0 fl_X12_372 (by decide +kernel) dX12_isNameHere_20 ?_
      refine tr_isub dX12_isNameHere_23 ?_
      refine tr_iconst (v := 4) dX12_isNameHere_24 (by decide +kernel) ?_
      refine tr_icgt (o := none) (tgt := 32) dX12_isNameHere_25 (by decide) ?_ ?_
      · refine tr_iconst (v := 0) dX12_isNameHere_32 (by decide +kernel) ?_
        refine tr_istore_n (lv' := [(0, .ref l0), (1, .int 0)]) [1, 0] dX12_isNameHere_33 (by decide) rfl ?_
        refine tr_iconst (v := 0) dX12_isNameHere_34 (by decide +kernel) ?_
        refine tr_istore_n (lv' := [(0, .ref l0), (1, .int 0), (2, .int 0)]) [1, 2, 0] dX12_isNameHere_35 (by decide) rfl ?_
        exact t_X12_isNameHere_36 G hG d hd σ ms_fuel l0 0 0 h0
      · refine tr_iconst (v := 1) dX12_isNameHere_28 (by decide +kernel) ?_
        refine tr_goto (tgt := 33) dX12_isNameHere_29 (by decide) ?_
        refine tr_istore_n (lv' := [(0, .ref l0), (1, .int 1)]) [1, 0] dX12_isNameHere_33 (by decide) rfl ?_
        refine tr_iconst (v := 0) dX12_isNameHere_34 (by decide +kernel) ?_
        refine tr_istore_n (lv' := [(0, .ref l0), (1, .int 1), (2, .int 0)]) [1, 2, 0] dX12_isNameHere_35 (by decide) rfl ?_
        exact t_X12_isNameHere_36 G hG d hd σ ms_fuel l0 1 0 h0
theorem dX12_letterHere_0 : decode cX12_letterHere 0 = .ok (.aload_n 0, 1) := by decide +kernel
theorem dX12_letterHere_1 : decode cX12_letterHere 1 = .ok (.getfield 372, 3) := by decide +kernel
theorem dX12_letterHere_4 : decode cX12_letterHere 4 = .ok (.iload_n 1, 1) := by decide +kernel
theorem dX12_letterHere_5 : decode cX12_letterHere 5 = .ok (.iadd, 1) := by decide +kernel
theorem dX12_letterHere_6 : decode cX12_letterHere 6 = .ok (.aload_n 0, 1) := by decide +kernel
theorem dX12_letterHere_7 : decode cX12_letterHere 7 = .ok (.getfield 369, 3) := by decide +kernel
theorem dX12_letterHere_10 : decode cX12_letterHere 10 = .ok (.if_icmp .ge 17, 3) := by decide +kernel
theorem dX12_letterHere_13 : decode cX12_letterHere 13 = .ok (.aload_n 0, 1) := by decide +kernel
theorem dX12_letterHere_14 : decode cX12_letterHere 14 = .ok (.getfield 62, 3) := by decide +kernel
theorem dX12_letterHere_17 : decode cX12_letterHere 17 = .ok (.aload_n 0, 1) := by decide +kernel
theorem dX12_letterHere_18 : decode cX12_letterHere 18 = .ok (.getfield 372, 3) := by decide +kernel
theorem dX12_letterHere_21 : decode cX12_letterHere 21 = .ok (.iload_n 1, 1) := by decide +kernel
theorem dX12_letterHere_22 : decode cX12_letterHere 22 = .ok (.iadd, 1) := by decide +kernel
theorem dX12_letterHere_23 : decode cX12_letterHere 23 = .ok (.iaload, 1) := by decide +kernel
theorem dX12_letterHere_24 : decode cX12_letterHere 24 = .ok (.goto 4, 3) := by decide +kernel
theorem dX12_letterHere_27 : decode cX12_letterHere 27 = .ok (.iconst 0, 1) := by decide +kernel
theorem dX12_letterHere_28 : decode cX12_letterHere 28 = .ok (.ireturn, 1) := by decide +kernel
set_option maxRecDepth 100000 in
theorem sp_X12_letterHere (G : MG) (hG : (g_l G).stackTraces = false) (d : Nat) (hd : 0 ≤ d)   (σ : MsSt) (l0 : Nat) (l1 : Int32) (h0 : ms_kd l0 = 13) : MsSpec G mX12_letterHere d 0 0 [.ref l0, .int l1] σ (ms_ki σ) (f_X12_letterHere σ l0 l1) := by
  refine ms_start (by decide +kernel) rfl rfl (Nat.le_of_ble_eq_true rfl) ?_
  show TrO G mX12_letterHere d 0 0 0 0 (ms_ki σ) 0 [(0, .ref l0), (1, .int l1)] [] σ (if ((ms_i σ l0 30) + l1) < (ms_i σ l0 29) then (ms_ald σ (ms_rf l0 26) ((ms_i σ l0 30) + l1)).bind fun v1 => some v1 else some 0)
  refine tr_aload_n (i := 0) dX12_letterHere_0 rfl ?_
  refine tr_getI 12 h0 fl_X12_372 (by decide +kernel) dX12_letterHere_1 ?_
  refine tr_iload_n (i := 1) dX12_letterHere_4 rfl ?_
  refine tr_iadd dX12_letterHere_5 ?_
  refine tr_aload_n (i := 0) dX12_letterHere_6 rfl ?_
  refine tr_getI 12 h0 fl_X12_369 (by decide +kernel) dX12_letterHere_7 ?_
  refine tr_icge (o := none) (tgt := 27) dX12_letterHere_10 (by decide) ?_ ?_
  · refine tr_iconst (v := 0) dX12_letterHere_27 (by decide +kernel) ?_
    exact tr_iret rfl rfl (by decide) (by decide) dX12_letterHere_28
  · refine tr_aload_n (i := 0) dX12_letterHere_13 rfl ?_
    refine tr_getR 12 h0 fl_X12_62 (by decide +kernel) dX12_letterHere_14 ?_
    refine tr_aload_n (i := 0) dX12_letterHere_17 rfl ?_
    refine tr_getI 12 h0 fl_X12_372 (by decide +kernel) dX12_letterHere_18 ?_
    refine tr_iload_n (i := 1) dX12_letterHere_21 rfl ?_
    refine tr_iadd dX12_letterHere_22 ?_
    refine tr_ald (rk_12_26 h0) dX12_letterHere_23 (fun v1 => ?_)
    refine tr_goto (tgt := 28) dX12_letterHere_24 (by decide) ?_
    exact tr_iret rfl rfl (by decide) (by decide) dX12_letterHere_28
theorem dX12_named_0 : decode cX12_named 0 = .ok (.iconst 0, 1) := by decide +kernel
theorem dX12_named_1 : decode cX12_named 1 = .ok (.istore_n 1, 1) := by decide +kernel
theorem dX12_named_2 : decode cX12_named 2 = .ok (.iload_n 1, 1) := by decide +kernel
theorem dX12_named_3 : decode cX12_named 3 = .ok (.aload_n 0, 1) := by decide +kernel
theorem dX12_named_4 : decode cX12_named 4 = .ok (.getfield 13, 3) := by decide +kernel
theorem dX12_named_7 : decode cX12_named 7 = .ok (.iconst 0, 1) := by decide +kernel
theorem dX12_named_8 : decode cX12_named 8 = .ok (.iaload, 1) := by decide +kernel
theorem dX12_named_9 : decode cX12_named 9 = .ok (.if_icmp .ge 58, 3) := by decide +kernel
theorem dX12_named_12 : decode cX12_named 12 = .ok (.iconst 1, 1) := by decide +kernel
theorem dX12_named_13 : decode cX12_named 13 = .ok (.istore_n 2, 1) := by decide +kernel
theorem dX12_named_14 : decode cX12_named 14 = .ok (.iconst 0, 1) := by decide +kernel
theorem dX12_named_15 : decode cX12_named 15 = .ok (.istore_n 3, 1) := by decide +kernel
theorem dX12_named_16 : decode cX12_named 16 = .ok (.iload_n 3, 1) := by decide +kernel
theorem dX12_named_17 : decode cX12_named 17 = .ok (.iconst 4, 1) := by decide +kernel
theorem dX12_named_18 : decode cX12_named 18 = .ok (.if_icmp .ge 37, 3) := by decide +kernel
theorem dX12_named_21 : decode cX12_named 21 = .ok (.iload_n 2, 1) := by decide +kernel
theorem dX12_named_22 : decode cX12_named 22 = .ok (.ifCond .eq 25, 3) := by decide +kernel
theorem dX12_named_25 : decode cX12_named 25 = .ok (.aload_n 0, 1) := by decide +kernel
theorem dX12_named_26 : decode cX12_named 26 = .ok (.getfield 25, 3) := by decide +kernel
theorem dX12_named_29 : decode cX12_named 29 = .ok (.iconst 4, 1) := by decide +kernel
theorem dX12_named_30 : decode cX12_named 30 = .ok (.iload_n 1, 1) := by decide +kernel
theorem dX12_named_31 : decode cX12_named 31 = .ok (.imul, 1) := by decide +kernel
theorem dX12_named_32 : decode cX12_named 32 = .ok (.iload_n 3, 1) := by decide +kernel
theorem dX12_named_33 : decode cX12_named 33 = .ok (.iadd, 1) := by decide +kernel
theorem dX12_named_34 : decode cX12_named 34 = .ok (.iaload, 1) := by decide +kernel
theorem dX12_named_35 : decode cX12_named 35 = .ok (.aload_n 0, 1) := by decide +kernel
theorem dX12_named_36 : decode cX12_named 36 = .ok (.iload_n 3, 1) := by decide +kernel
theorem dX12_named_37 : decode cX12_named 37 = .ok (.invokevirtual 432, 3) := by decide +kernel
theorem dX12_named_40 : decode cX12_named 40 = .ok (.if_icmp .ne 7, 3) := by decide +kernel
theorem dX12_named_43 : decode cX12_named 43 = .ok (.iconst 1, 1) := by decide +kernel
theorem dX12_named_44 : decode cX12_named 44 = .ok (.goto 4, 3) := by decide +kernel
theorem dX12_named_47 : decode cX12_named 47 = .ok (.iconst 0, 1) := by decide +kernel
theorem dX12_named_48 : decode cX12_named 48 = .ok (.istore_n 2, 1) := by decide +kernel
theorem dX12_named_49 : decode cX12_named 49 = .ok (.iinc 3 1, 3) := by decide +kernel
theorem dX12_named_52 : decode cX12_named 52 = .ok (.goto (-36), 3) := by decide +kernel
theorem dX12_named_55 : decode cX12_named 55 = .ok (.iload_n 2, 1) := by decide +kernel
theorem dX12_named_56 : decode cX12_named 56 = .ok (.ifCond .eq 5, 3) := by decide +kernel
theorem dX12_named_59 : decode cX12_named 59 = .ok (.iload_n 1, 1) := by decide +kernel
theorem dX12_named_60 : decode cX12_named 60 = .ok (.ireturn, 1) := by decide +kernel
theorem dX12_named_61 : decode cX12_named 61 = .ok (.iinc 1 1, 3) := by decide +kernel
theorem dX12_named_64 : decode cX12_named 64 = .ok (.goto (-62), 3) := by decide +kernel
theorem dX12_named_67 : decode cX12_named 67 = .ok (.iconst (-1), 1) := by decide +kernel
theorem dX12_named_68 : decode cX12_named 68 = .ok (.ireturn, 1) := by decide +kernel
set_option maxRecDepth 100000 in
theorem t_X12_named_16 (G : MG) (hG : (g_l G).stackTraces = false) (d : Nat) (hd : 1 ≤ d)   (σ : MsSt) (k2 : Nat → Int32 → Option (Int32)) (hk2 : ∀ (x1 : Nat) (x2 : Int32), ms_kd x1 = 13 → TrO G mX12_named d 0 0 0 0 (ms_ki σ) 2 [(0, .ref x1), (1, .int x2)] [] σ (k2 x1 x2)) : ∀ (n : Nat) (l0 : Nat) (l1 : Int32) (l2 : Int32) (l3 : Int32) (h0 : ms_kd l0 = 13), TrO G mX12_named d 0 0 0 0 (ms_ki σ) 16 [(0, .ref l0), (1, .int l1), (2, .int l2), (3, .int l3)] [] σ (f_X12_named_16 σ k2 n l0 l1 l2 l3) := by
  intro n
  induction n with
  | zero => exact fun _ _ _ _ _ => tr_none
  | succ n ih =>
    intro l0 l1 l2 l3 h0
    show TrO G mX12_named d 0 0 0 0 (ms_ki σ) 16 [(0, .ref l0), (1, .int l1), (2, .int l2), (3, .int l3)] [] σ (if l3 < 4 then if l2 = 0 then (f_X12_named_16 σ k2 n) l0 l1 0 (l3 + 1) else (ms_ald σ (ms_rf l0 5) ((4 * l1) + l3)).bind fun v2 => (f_X12_letterHere σ l0 l3).bind fun v3 => if v2 = v3 then (f_X12_named_16 σ k2 n) l0 l1 1 (l3 + 1) else (f_X12_named_16 σ k2 n) l0 l1 0 (l3 + 1) else if l2 = 0 then k2 l0 (l1 + 1) else some l1)
    refine tr_iload_n (i := 3) dX12_named_16 rfl ?_
    refine tr_iconst (v := 4) dX12_named_17 (by decide +kernel) ?_
    refine tr_icge (o := none) (tgt := 55) dX12_named_18 (by decide) ?_ ?_
    · refine tr_iload_n (i := 2) dX12_named_55 rfl ?_
      refine tr_ifeq (o := none) (tgt := 61) dX12_named_56 (by decide) ?_ ?_
      · refine tr_iinc (k := 1) (v := (l1 + 1)) (lv' := [(0, .ref l0), (1, .int (l1 + 1))]) [1, 0] dX12_named_61 rfl rfl (by decide) rfl ?_
        refine tr_goto (tgt := 2) dX12_named_64 (by decide) ?_
        exact hk2 l0 (l1 + 1) h0
      · refine tr_iload_n (i := 1) dX12_named_59 rfl ?_
        exact tr_iret rfl rfl (by decide) (by decide) dX12_named_60
    · refine tr_iload_n (i := 2) dX12_named_21 rfl ?_
      refine tr_ifeq (o := none) (tgt := 47) dX12_named_22 (by decide) ?_ ?_
      · refine tr_iconst (v := 0) dX12_named_47 (by decide +kernel) ?_
        refine tr_istore_n (lv' := [(0, .ref l0), (1, .int l1), (2, .int 0), (3, .int l3)]) [1, 2, 0, 3] dX12_named_48 (by decide) rfl ?_
        refine tr_iinc (k := 3) (v := (l3 + 1)) (lv' := [(0, .ref l0), (1, .int l1), (2, .int 0), (3, .int (l3 + 1))]) [1, 2, 3, 0] dX12_named_49 rfl rfl (by decide) rfl ?_
        refine tr_goto (tgt := 16) dX12_named_52 (by decide) ?_
        exact (fun y0 y1 y2 y3 g0 => ih y0 y1 y2 y3 g0) l0 l1 0 (l3 + 1) h0
      · refine tr_aload_n (i := 0) dX12_named_25 rfl ?_
        refine tr_getR 12 h0 fl_X12_25 (by decide +kernel) dX12_named_26 ?_
        refine tr_iconst (v := 4) dX12_named_29 (by decide +kernel) ?_
        refine tr_iload_n (i := 1) dX12_named_30 rfl ?_
        refine tr_imul dX12_named_31 ?_
        refine tr_iload_n (i := 3) dX12_named_32 rfl ?_
        refine tr_iadd dX12_named_33 ?_
        refine tr_ald (rk_12_5 h0) dX12_named_34 (fun v2 => ?_)
        refine tr_aload_n (i := 0) dX12_named_35 rfl ?_
        refine tr_iload_n (i := 3) dX12_named_36 rfl ?_
        refine tr_c_i (ms_cV (rest := [.int v2]) (al := [.int l3]) 12 (sp_X12_letterHere G hG (d - 1) (by omega) σ l0 l3 h0) h0 (by decide +kernel) kl_X12_432 fv_X12_letterHere dX12_named_37 (show _ = some 1 by decide +kernel) (by omega) (Nat.le_of_ble_eq_true rfl) (by decide) (by decide)) (fun v3 => ?_)
        refine tr_icne (o := none) (tgt := 47) dX12_named_40 (by decide) ?_ ?_
        · refine tr_iconst (v := 0) dX12_named_47 (by decide +kernel) ?_
          refine tr_istore_n (lv' := [(0, .ref l0), (1, .int l1), (2, .int 0), (3, .int l3)]) [1, 2, 0, 3] dX12_named_48 (by decide) rfl ?_
          refine tr_iinc (k := 3) (v := (l3 + 1)) (lv' := [(0, .ref l0), (1, .int l1), (2, .int 0), (3, .int (l3 + 1))]) [1, 2, 3, 0] dX12_named_49 rfl rfl (by decide) rfl ?_
          refine tr_goto (tgt := 16) dX12_named_52 (by decide) ?_
          exact (fun y0 y1 y2 y3 g0 => ih y0 y1 y2 y3 g0) l0 l1 0 (l3 + 1) h0
        · refine tr_iconst (v := 1) dX12_named_43 (by decide +kernel) ?_
          refine tr_goto (tgt := 48) dX12_named_44 (by decide) ?_
          refine tr_istore_n (lv' := [(0, .ref l0), (1, .int l1), (2, .int 1), (3, .int l3)]) [1, 2, 0, 3] dX12_named_48 (by decide) rfl ?_
          refine tr_iinc (k := 3) (v := (l3 + 1)) (lv' := [(0, .ref l0), (1, .int l1), (2, .int 1), (3, .int (l3 + 1))]) [1, 2, 3, 0] dX12_named_49 rfl rfl (by decide) rfl ?_
          refine tr_goto (tgt := 16) dX12_named_52 (by decide) ?_
          exact (fun y0 y1 y2 y3 g0 => ih y0 y1 y2 y3 g0) l0 l1 1 (l3 + 1) h0
set_option maxRecDepth 100000 in
theorem t_X12_named_2 (G : MG) (hG : (g_l G).stackTraces = false) (d : Nat) (hd : 1 ≤ d)   (σ : MsSt)  : ∀ (n : Nat) (l0 : Nat) (l1 : Int32) (h0 : ms_kd l0 = 13), TrO G mX12_named d 0 0 0 0 (ms_ki σ) 2 [(0, .ref l0), (1, .int l1)] [] σ (f_X12_named_2 σ n l0 l1) := by
  intro n
  induction n with
  | zero => exact fun _ _ _ => tr_none
  | succ n ih =>
    intro l0 l1 h0
    show TrO G mX12_named d 0 0 0 0 (ms_ki σ) 2 [(0, .ref l0), (1, .int l1)] [] σ ((ms_ald σ (ms_rf l0 1) 0).bind fun v1 => if l1 < v1 then f_X12_named_16 σ (f_X12_named_2 σ n) ms_fuel l0 l1 1 0 else some (-1))
    refine tr_iload_n (i := 1) dX12_named_2 rfl ?_
    refine tr_aload_n (i := 0) dX12_named_3 rfl ?_
    refine tr_getR 12 h0 fl_X12_13 (by decide +kernel) dX12_named_4 ?_
    refine tr_iconst (v := 0) dX12_named_7 (by decide +kernel) ?_
    refine tr_ald (rk_12_1 h0) dX12_named_8 (fun v1 => ?_)
    refine tr_icge (o := none) (tgt := 67) dX12_named_9 (by decide) ?_ ?_
    · refine tr_iconst (v := (-1)) dX12_named_67 (by decide +kernel) ?_
      exact tr_iret rfl rfl (by decide) (by decide) dX12_named_68
    · refine tr_iconst (v := 1) dX12_named_12 (by decide +kernel) ?_
      refine tr_istore_n (lv' := [(0, .ref l0), (1, .int l1), (2, .int 1)]) [1, 2, 0] dX12_named_13 (by decide) rfl ?_
      refine tr_iconst (v := 0) dX12_named_14 (by decide +kernel) ?_
      refine tr_istore_n (lv' := [(0, .ref l0), (1, .int l1), (2, .int 1), (3, .int 0)]) [1, 2, 3, 0] dX12_named_15 (by decide) rfl ?_
      exact t_X12_named_16 G hG d hd σ (f_X12_named_2 σ n) (fun y0 y1 g0 => ih y0 y1 g0) ms_fuel l0 l1 1 0 h0
set_option maxRecDepth 100000 in
theorem sp_X12_named (G : MG) (hG : (g_l G).stackTraces = false) (d : Nat) (hd : 1 ≤ d)   (σ : MsSt) (l0 : Nat) (h0 : ms_kd l0 = 13) : MsSpec G mX12_named d 0 0 [.ref l0] σ (ms_ki σ) (f_X12_named σ l0) := by
  refine ms_start (by decide +kernel) rfl rfl (Nat.le_of_ble_eq_true rfl) ?_
  show TrO G mX12_named d 0 0 0 0 (ms_ki σ) 0 [(0, .ref l0)] [] σ (f_X12_named_2 σ ms_fuel l0 0)
  refine tr_iconst (v := 0) dX12_named_0 (by decide +kernel) ?_
  refine tr_istore_n (lv' := [(0, .ref l0), (1, .int 0)]) [1, 0] dX12_named_1 (by decide) rfl ?_
  exact t_X12_named_2 G hG d hd σ ms_fuel l0 0 h0
theorem dX12_readName_0 : decode cX12_readName 0 = .ok (.aload_n 0, 1) := by decide +kernel
theorem dX12_readName_1 : decode cX12_readName 1 = .ok (.aload_n 0, 1) := by decide +kernel
theorem dX12_readName_2 : decode cX12_readName 2 = .ok (.invokevirtual 435, 3) := by decide +kernel
theorem dX12_readName_5 : decode cX12_readName 5 = .ok (.iconst 1, 1) := by decide +kernel
theorem dX12_readName_6 : decode cX12_readName 6 = .ok (.invokevirtual 410, 3) := by decide +kernel
theorem dX12_readName_9 : decode cX12_readName 9 = .ok (.aload_n 0, 1) := by decide +kernel
theorem dX12_readName_10 : decode cX12_readName 10 = .ok (.aload_n 0, 1) := by decide +kernel
theorem dX12_readName_11 : decode cX12_readName 11 = .ok (.getfield 384, 3) := by decide +kernel
theorem dX12_readName_14 : decode cX12_readName 14 = .ok (.ifCond .ne 11, 3) := by decide +kernel
theorem dX12_readName_17 : decode cX12_readName 17 = .ok (.aload_n 0, 1) := by decide +kernel
theorem dX12_readName_18 : decode cX12_readName 18 = .ok (.invokevirtual 439, 3) := by decide +kernel
theorem dX12_readName_21 : decode cX12_readName 21 = .ok (.iconst (-1), 1) := by decide +kernel
theorem dX12_readName_22 : decode cX12_readName 22 = .ok (.if_icmp .ne 7, 3) := by decide +kernel
theorem dX12_readName_25 : decode cX12_readName 25 = .ok (.iconst 1, 1) := by decide +kernel
theorem dX12_readName_26 : decode cX12_readName 26 = .ok (.goto 4, 3) := by decide +kernel
theorem dX12_readName_29 : decode cX12_readName 29 = .ok (.iconst 0, 1) := by decide +kernel
theorem dX12_readName_30 : decode cX12_readName 30 = .ok (.iconst 3, 1) := by decide +kernel
theorem dX12_readName_31 : decode cX12_readName 31 = .ok (.invokevirtual 410, 3) := by decide +kernel
theorem dX12_readName_34 : decode cX12_readName 34 = .ok (.iconst 0, 1) := by decide +kernel
theorem dX12_readName_35 : decode cX12_readName 35 = .ok (.istore_n 1, 1) := by decide +kernel
theorem dX12_readName_36 : decode cX12_readName 36 = .ok (.iload_n 1, 1) := by decide +kernel
theorem dX12_readName_37 : decode cX12_readName 37 = .ok (.iconst 4, 1) := by decide +kernel
theorem dX12_readName_38 : decode cX12_readName 38 = .ok (.if_icmp .ge 36, 3) := by decide +kernel
theorem dX12_readName_41 : decode cX12_readName 41 = .ok (.aload_n 0, 1) := by decide +kernel
theorem dX12_readName_42 : decode cX12_readName 42 = .ok (.getfield 384, 3) := by decide +kernel
theorem dX12_readName_45 : decode cX12_readName 45 = .ok (.ifCond .ne 29, 3) := by decide +kernel
theorem dX12_readName_48 : decode cX12_readName 48 = .ok (.aload_n 0, 1) := by decide +kernel
theorem dX12_readName_49 : decode cX12_readName 49 = .ok (.getfield 25, 3) := by decide +kernel
theorem dX12_readName_52 : decode cX12_readName 52 = .ok (.iconst 4, 1) := by decide +kernel
theorem dX12_readName_53 : decode cX12_readName 53 = .ok (.aload_n 0, 1) := by decide +kernel
theorem dX12_readName_54 : decode cX12_readName 54 = .ok (.getfield 13, 3) := by decide +kernel
theorem dX12_readName_57 : decode cX12_readName 57 = .ok (.iconst 0, 1) := by decide +kernel
theorem dX12_readName_58 : decode cX12_readName 58 = .ok (.iaload, 1) := by decide +kernel
theorem dX12_readName_59 : decode cX12_readName 59 = .ok (.imul, 1) := by decide +kernel
theorem dX12_readName_60 : decode cX12_readName 60 = .ok (.iload_n 1, 1) := by decide +kernel
theorem dX12_readName_61 : decode cX12_readName 61 = .ok (.iadd, 1) := by decide +kernel
theorem dX12_readName_62 : decode cX12_readName 62 = .ok (.aload_n 0, 1) := by decide +kernel
theorem dX12_readName_63 : decode cX12_readName 63 = .ok (.iload_n 1, 1) := by decide +kernel
theorem dX12_readName_64 : decode cX12_readName 64 = .ok (.invokevirtual 432, 3) := by decide +kernel
theorem dX12_readName_67 : decode cX12_readName 67 = .ok (.iastore, 1) := by decide +kernel
theorem dX12_readName_68 : decode cX12_readName 68 = .ok (.iinc 1 1, 3) := by decide +kernel
theorem dX12_readName_71 : decode cX12_readName 71 = .ok (.goto (-35), 3) := by decide +kernel
theorem dX12_readName_74 : decode cX12_readName 74 = .ok (.aload_n 0, 1) := by decide +kernel
theorem dX12_readName_75 : decode cX12_readName 75 = .ok (.invokevirtual 414, 3) := by decide +kernel
theorem dX12_readName_78 : decode cX12_readName 78 = .ok (.return_, 1) := by decide +kernel
set_option maxRecDepth 100000 in
theorem t_X12_readName_36 (G : MG) (hG : (g_l G).stackTraces = false) (d : Nat) (hd : 6 ≤ d)    : ∀ (n : Nat) (σ : MsSt) (l0 : Nat) (l1 : Int32) (h0 : ms_kd l0 = 13), TrO G mX12_readName d 0 0 0 0 ms_wv 36 [(0, .ref l0), (1, .int l1)] [] σ (f_X12_readName_36 n σ l0 l1) := by
  intro n
  induction n with
  | zero => exact fun _ _ _ _ => tr_none
  | succ n ih =>
    intro σ l0 l1 h0
    show TrO G mX12_readName d 0 0 0 0 ms_wv 36 [(0, .ref l0), (1, .int l1)] [] σ (if l1 < 4 then if (ms_i σ l0 32) = 0 then (ms_ald σ (ms_rf l0 1) 0).bind fun v6 => (f_X12_letterHere σ l0 l1).bind fun v7 => (ms_ast σ (ms_rf l0 5) ((4 * v6) + l1) v7).bind fun s8 => (f_X12_readName_36 n) s8 l0 (l1 + 1) else (f_X12_advance σ l0).bind fun s5 => some s5 else (f_X12_advance σ l0).bind fun s4 => some s4)
    refine tr_iload_n (i := 1) dX12_readName_36 rfl ?_
    refine tr_iconst (v := 4) dX12_readName_37 (by decide +kernel) ?_
    refine tr_icge (o := none) (tgt := 74) dX12_readName_38 (by decide) ?_ ?_
    · refine tr_aload_n (i := 0) dX12_readName_74 rfl ?_
      refine tr_c_wv (ms_cV (rest := []) (al := []) 12 (sp_X12_advance G hG (d - 1) (by omega) σ l0 h0) h0 (by decide +kernel) kl_X12_414 fv_X12_advance dX12_readName_75 (show _ = some 0 by decide +kernel) (by omega) (Nat.le_of_ble_eq_true rfl) (by decide) (by decide)) (fun s4 => ?_)
      exact tr_vret rfl rfl (by decide) (by decide) dX12_readName_78
    · refine tr_aload_n (i := 0) dX12_readName_41 rfl ?_
      refine tr_getI 12 h0 fl_X12_384 (by decide +kernel) dX12_readName_42 ?_
      refine tr_ifne (o := none) (tgt := 74) dX12_readName_45 (by decide) ?_ ?_
      · refine tr_aload_n (i := 0) dX12_readName_74 rfl ?_
        refine tr_c_wv (ms_cV (rest := []) (al := []) 12 (sp_X12_advance G hG (d - 1) (by omega) σ l0 h0) h0 (by decide +kernel) kl_X12_414 fv_X12_advance dX12_readName_75 (show _ = some 0 by decide +kernel) (by omega) (Nat.le_of_ble_eq_true rfl) (by decide) (by decide)) (fun s5 => ?_)
        exact tr_vret rfl rfl (by decide) (by decide) dX12_readName_78
      · refine tr_aload_n (i := 0) dX12_readName_48 rfl ?_
        refine tr_getR 12 h0 fl_X12_25 (by decide +kernel) dX12_readName_49 ?_
        refine tr_iconst (v := 4) dX12_readName_52 (by decide +kernel) ?_
        refine tr_aload_n (i := 0) dX12_readName_53 rfl ?_
        refine tr_getR 12 h0 fl_X12_13 (by decide +kernel) dX12_readName_54 ?_
        refine tr_iconst (v := 0) dX12_readName_57 (by decide +kernel) ?_
        refine tr_ald (rk_12_1 h0) dX12_readName_58 (fun v6 => ?_)
        refine tr_imul dX12_readName_59 ?_
        refine tr_iload_n (i := 1) dX12_readName_60 rfl ?_
        refine tr_iadd dX12_readName_61 ?_
        refine tr_aload_n (i := 0) dX12_readName_62 rfl ?_
        refine tr_iload_n (i := 1) dX12_readName_63 rfl ?_
        refine tr_c_i (ms_cV (rest := [.int ((4 * v6) + l1), .ref (ms_rf l0 5)]) (al := [.int l1]) 12 (sp_X12_letterHere G hG (d - 1) (by omega) σ l0 l1 h0) h0 (by decide +kernel) kl_X12_432 fv_X12_letterHere dX12_readName_64 (show _ = some 1 by decide +kernel) (by omega) (Nat.le_of_ble_eq_true rfl) (by decide) (by decide)) (fun v7 => ?_)
        refine tr_ast (rk_12_5 h0) dX12_readName_67 (fun s8 => ?_)
        refine tr_iinc (k := 1) (v := (l1 + 1)) (lv' := [(0, .ref l0), (1, .int (l1 + 1))]) [1, 0] dX12_readName_68 rfl rfl (by decide) rfl ?_
        refine tr_goto (tgt := 36) dX12_readName_71 (by decide) ?_
        exact (fun s y0 y1 g0 => ih s y0 y1 g0) s8 l0 (l1 + 1) h0
set_option maxRecDepth 100000 in
theorem sp_X12_readName (G : MG) (hG : (g_l G).stackTraces = false) (d : Nat) (hd : 6 ≤ d)   (σ : MsSt) (l0 : Nat) (h0 : ms_kd l0 = 13) : MsSpec G mX12_readName d 0 0 [.ref l0] σ ms_wv (f_X12_readName σ l0) := by
  refine ms_start (by decide +kernel) rfl rfl (Nat.le_of_ble_eq_true rfl) ?_
  show TrO G mX12_readName d 0 0 0 0 ms_wv 0 [(0, .ref l0)] [] σ ((f_X12_isNameHere σ l0).bind fun v1 => (f_X12_check σ l0 v1 1).bind fun s2 => if (ms_i s2 l0 32) = 0 then (f_X12_named s2 l0).bind fun v9 => if v9 = (-1) then (f_X12_check s2 l0 1 3).bind fun s11 => f_X12_readName_36 ms_fuel s11 l0 0 else (f_X12_check s2 l0 0 3).bind fun s10 => f_X12_readName_36 ms_fuel s10 l0 0 else (f_X12_check s2 l0 1 3).bind fun s3 => f_X12_readName_36 ms_fuel s3 l0 0)
  refine tr_aload_n (i := 0) dX12_readName_0 rfl ?_
  refine tr_aload_n (i := 0) dX12_readName_1 rfl ?_
  refine tr_c_i (ms_cV (rest := [.ref l0]) (al := []) 12 (sp_X12_isNameHere G hG (d - 1) (by omega) σ l0 h0) h0 (by decide +kernel) kl_X12_435 fv_X12_isNameHere dX12_readName_2 (show _ = some 0 by decide +kernel) (by omega) (Nat.le_of_ble_eq_true rfl) (by decide) (by decide)) (fun v1 => ?_)
  refine tr_iconst (v := 1) dX12_readName_5 (by decide +kernel) ?_
  refine tr_c_wv (ms_cV (rest := []) (al := [.int v1, .int 1]) 12 (sp_X12_check G hG (d - 1) (by omega) σ l0 v1 1 h0) h0 (by decide +kernel) kl_X12_410 fv_X12_check dX12_readName_6 (show _ = some 2 by decide +kernel) (by omega) (Nat.le_of_ble_eq_true rfl) (by decide) (by decide)) (fun s2 => ?_)
  refine tr_aload_n (i := 0) dX12_readName_9 rfl ?_
  refine tr_aload_n (i := 0) dX12_readName_10 rfl ?_
  refine tr_getI 12 h0 fl_X12_384 (by decide +kernel) dX12_readName_11 ?_
  refine tr_ifne (o := none) (tgt := 25) dX12_readName_14 (by decide) ?_ ?_
  · refine tr_iconst (v := 1) dX12_readName_25 (by decide +kernel) ?_
    refine tr_goto (tgt := 30) dX12_readName_26 (by decide) ?_
    refine tr_iconst (v := 3) dX12_readName_30 (by decide +kernel) ?_
    refine tr_c_wv (ms_cV (rest := []) (al := [.int 1, .int 3]) 12 (sp_X12_check G hG (d - 1) (by omega) s2 l0 1 3 h0) h0 (by decide +kernel) kl_X12_410 fv_X12_check dX12_readName_31 (show _ = some 2 by decide +kernel) (by omega) (Nat.le_of_ble_eq_true rfl) (by decide) (by decide)) (fun s3 => ?_)
    refine tr_iconst (v := 0) dX12_readName_34 (by decide +kernel) ?_
    refine tr_istore_n (lv' := [(0, .ref l0), (1, .int 0)]) [1, 0] dX12_readName_35 (by decide) rfl ?_
    exact t_X12_readName_36 G hG d hd ms_fuel s3 l0 0 h0
  · refine tr_aload_n (i := 0) dX12_readName_17 rfl ?_
    refine tr_c_i (ms_cV (rest := [.ref l0]) (al := []) 12 (sp_X12_named G hG (d - 1) (by omega) s2 l0 h0) h0 (by decide +kernel) kl_X12_439 fv_X12_named dX12_readName_18 (show _ = some 0 by decide +kernel) (by omega) (Nat.le_of_ble_eq_true rfl) (by decide) (by decide)) (fun v9 => ?_)
    refine tr_iconst (v := (-1)) dX12_readName_21 (by decide +kernel) ?_
    refine tr_icne (o := none) (tgt := 29) dX12_readName_22 (by decide) ?_ ?_
    · refine tr_iconst (v := 0) dX12_readName_29 (by decide +kernel) ?_
      refine tr_iconst (v := 3) dX12_readName_30 (by decide +kernel) ?_
      refine tr_c_wv (ms_cV (rest := []) (al := [.int 0, .int 3]) 12 (sp_X12_check G hG (d - 1) (by omega) s2 l0 0 3 h0) h0 (by decide +kernel) kl_X12_410 fv_X12_check dX12_readName_31 (show _ = some 2 by decide +kernel) (by omega) (Nat.le_of_ble_eq_true rfl) (by decide) (by decide)) (fun s10 => ?_)
      refine tr_iconst (v := 0) dX12_readName_34 (by decide +kernel) ?_
      refine tr_istore_n (lv' := [(0, .ref l0), (1, .int 0)]) [1, 0] dX12_readName_35 (by decide) rfl ?_
      exact t_X12_readName_36 G hG d hd ms_fuel s10 l0 0 h0
    · refine tr_iconst (v := 1) dX12_readName_25 (by decide +kernel) ?_
      refine tr_goto (tgt := 30) dX12_readName_26 (by decide) ?_
      refine tr_iconst (v := 3) dX12_readName_30 (by decide +kernel) ?_
      refine tr_c_wv (ms_cV (rest := []) (al := [.int 1, .int 3]) 12 (sp_X12_check G hG (d - 1) (by omega) s2 l0 1 3 h0) h0 (by decide +kernel) kl_X12_410 fv_X12_check dX12_readName_31 (show _ = some 2 by decide +kernel) (by omega) (Nat.le_of_ble_eq_true rfl) (by decide) (by decide)) (fun s11 => ?_)
      refine tr_iconst (v := 0) dX12_readName_34 (by decide +kernel) ?_
      refine tr_istore_n (lv' := [(0, .ref l0), (1, .int 0)]) [1, 0] dX12_readName_35 (by decide) rfl ?_
      exact t_X12_readName_36 G hG d hd ms_fuel s11 l0 0 h0
