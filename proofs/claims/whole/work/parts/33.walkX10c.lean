/-! X10: the bytecode does what the functions say (by program: wip/whole/gen) -/
theorem dX10_setSpare_0 : decode cX10_setSpare 0 = .ok (.aload_n 0, 1) := by decide +kernel
theorem dX10_setSpare_1 : decode cX10_setSpare 1 = .ok (.iload_n 1, 1) := by decide +kernel
theorem dX10_setSpare_2 : decode cX10_setSpare 2 = .ok (.invokevirtual 145, 3) := by decide +kernel
theorem dX10_setSpare_5 : decode cX10_setSpare 5 = .ok (.aload_n 0, 1) := by decide +kernel
theorem dX10_setSpare_6 : decode cX10_setSpare 6 = .ok (.getfield 19, 3) := by decide +kernel
theorem dX10_setSpare_9 : decode cX10_setSpare 9 = .ok (.iload_n 1, 1) := by decide +kernel
theorem dX10_setSpare_10 : decode cX10_setSpare 10 = .ok (.invokevirtual 306, 3) := by decide +kernel
theorem dX10_setSpare_13 : decode cX10_setSpare 13 = .ok (.iconst 2, 1) := by decide +kernel
theorem dX10_setSpare_14 : decode cX10_setSpare 14 = .ok (.iconst 2, 1) := by decide +kernel
theorem dX10_setSpare_15 : decode cX10_setSpare 15 = .ok (.invokestatic 316, 3) := by decide +kernel
theorem dX10_setSpare_18 : decode cX10_setSpare 18 = .ok (.aload_n 0, 1) := by decide +kernel
theorem dX10_setSpare_19 : decode cX10_setSpare 19 = .ok (.getfield 44, 3) := by decide +kernel
theorem dX10_setSpare_22 : decode cX10_setSpare 22 = .ok (.aload_n 0, 1) := by decide +kernel
theorem dX10_setSpare_23 : decode cX10_setSpare 23 = .ok (.getfield 19, 3) := by decide +kernel
theorem dX10_setSpare_26 : decode cX10_setSpare 26 = .ok (.invokevirtual 313, 3) := by decide +kernel
theorem dX10_setSpare_29 : decode cX10_setSpare 29 = .ok (.aload_n 0, 1) := by decide +kernel
theorem dX10_setSpare_30 : decode cX10_setSpare 30 = .ok (.getfield 19, 3) := by decide +kernel
theorem dX10_setSpare_33 : decode cX10_setSpare 33 = .ok (.iload_n 1, 1) := by decide +kernel
theorem dX10_setSpare_34 : decode cX10_setSpare 34 = .ok (.invokevirtual 148, 3) := by decide +kernel
theorem dX10_setSpare_37 : decode cX10_setSpare 37 = .ok (.astore_n 3, 1) := by decide +kernel
theorem dX10_setSpare_38 : decode cX10_setSpare 38 = .ok (.aload_n 3, 1) := by decide +kernel
theorem dX10_setSpare_39 : decode cX10_setSpare 39 = .ok (.getfield 353, 3) := by decide +kernel
theorem dX10_setSpare_42 : decode cX10_setSpare 42 = .ok (.ifCond .eq 7, 3) := by decide +kernel
theorem dX10_setSpare_45 : decode cX10_setSpare 45 = .ok (.iconst 1, 1) := by decide +kernel
theorem dX10_setSpare_46 : decode cX10_setSpare 46 = .ok (.goto 4, 3) := by decide +kernel
theorem dX10_setSpare_49 : decode cX10_setSpare 49 = .ok (.iconst 0, 1) := by decide +kernel
theorem dX10_setSpare_50 : decode cX10_setSpare 50 = .ok (.istore 4, 2) := by decide +kernel
theorem dX10_setSpare_52 : decode cX10_setSpare 52 = .ok (.aload_n 3, 1) := by decide +kernel
theorem dX10_setSpare_53 : decode cX10_setSpare 53 = .ok (.iload_n 2, 1) := by decide +kernel
theorem dX10_setSpare_54 : decode cX10_setSpare 54 = .ok (.putfield 353, 3) := by decide +kernel
theorem dX10_setSpare_57 : decode cX10_setSpare 57 = .ok (.iload 4, 2) := by decide +kernel
theorem dX10_setSpare_59 : decode cX10_setSpare 59 = .ok (.ireturn, 1) := by decide +kernel
set_option maxRecDepth 100000 in
theorem sp_X10_setSpare (G : MG) (hG : (g_l G).stackTraces = false) (d : Nat) (hd : 8 ≤ d)   (σ : MsSt) (l0 : Nat) (l1 : Int32) (l2 : Int32) (h0 : ms_kd l0 = 11) : MsSpec G mX10_setSpare d 2 12 [.ref l0, .int l1, .int l2] σ ms_ui (f_X10_setSpare σ l0 l1 l2) := by
  refine ms_start (by decide +kernel) rfl rfl (Nat.le_of_ble_eq_true rfl) ?_
  show TrO G mX10_setSpare d 2 12 0 0 ms_ui 0 [(0, .ref l0), (1, .int l1), (2, .int l2)] [] σ (ms_bt (f_X10_needSign σ l0 l1) ((f_X6_kindOf σ (ms_rf l0 1) l1).bind fun v2 => ms_bt (f_X10_allowIn σ v2 2 2) ((f_X2_record σ (ms_rf l0 4) (ms_rf l0 1)).bind fun s4 => (f_X6_told s4 (ms_rf l0 1) l1).bind fun v5 => if (ms_i s4 v5 13) = 0 then (ms_bz l2).bind fun v6 => ms_nm (ms_si s4 v5 13 v6) fun s7 => some (.inl 0, s7) else (ms_bz l2).bind fun v8 => ms_nm (ms_si s4 v5 13 v8) fun s9 => some (.inl 1, s9)) (fun e3 => some (.inr e3, σ))) (fun e1 => some (.inr e1, σ)))
  refine tr_aload_n (i := 0) dX10_setSpare_0 rfl ?_
  refine tr_iload_n (i := 1) dX10_setSpare_1 rfl ?_
  refine tr_d_tv (ms_cV (rest := []) (al := [.int l1]) 10 (sp_X10_needSign G hG (d - 1) (by omega) σ l0 l1 h0) h0 (by decide +kernel) kl_X10_145 fv_X10_needSign dX10_setSpare_2 (show _ = some 1 by decide +kernel) (by omega) (Nat.le_of_ble_eq_true rfl) (by decide) (by decide)) rfl (by decide) (by decide) ?_ (fun e0 r h => by cases h; rfl)
  refine tr_aload_n (i := 0) dX10_setSpare_5 rfl ?_
  refine tr_getR 10 h0 fl_X10_19 (by decide +kernel) dX10_setSpare_6 ?_
  refine tr_iload_n (i := 1) dX10_setSpare_9 rfl ?_
  refine tr_c_i (ms_cV (rest := []) (al := [.int l1]) 6 (sp_X6_kindOf G hG (d - 1) (by omega) σ (ms_rf l0 1) l1 (rk_10_1 h0)) (rk_10_1 h0) (by decide +kernel) kl_X10_306 fv_X6_kindOf dX10_setSpare_10 (show _ = some 1 by decide +kernel) (by omega) (Nat.le_of_ble_eq_true rfl) (by decide) (by decide)) (fun v2 => ?_)
  refine tr_iconst (v := 2) dX10_setSpare_13 (by decide +kernel) ?_
  refine tr_iconst (v := 2) dX10_setSpare_14 (by decide +kernel) ?_
  refine tr_d_tv (ms_cS (rest := []) (al := [.int v2, .int 2, .int 2]) (sp_X10_allowIn G hG (d - 1) (by omega) σ v2 2 2) kl_X10_316 fs_X10_allowIn dX10_setSpare_15 (show _ = some 3 by decide +kernel) (by omega) (Nat.le_of_ble_eq_true rfl) (by decide) (by decide)) rfl (by decide) (by decide) ?_ (fun e0 r h => by cases h; rfl)
  refine tr_aload_n (i := 0) dX10_setSpare_18 rfl ?_
  refine tr_getR 10 h0 fl_X10_44 (by decide +kernel) dX10_setSpare_19 ?_
  refine tr_aload_n (i := 0) dX10_setSpare_22 rfl ?_
  refine tr_getR 10 h0 fl_X10_19 (by decide +kernel) dX10_setSpare_23 ?_
  refine tr_c_wv (ms_cV (rest := []) (al := [.ref (ms_rf l0 1)]) 2 (sp_X2_record G hG (d - 1) (by omega) σ (ms_rf l0 4) (ms_rf l0 1) (rk_10_4 h0) (rk_10_1 h0)) (rk_10_4 h0) (by decide +kernel) kl_X10_313 fv_X2_record dX10_setSpare_26 (show _ = some 1 by decide +kernel) (by omega) (Nat.le_of_ble_eq_true rfl) (by decide) (by decide)) (fun s4 => ?_)
  refine tr_aload_n (i := 0) dX10_setSpare_29 rfl ?_
  refine tr_getR 10 h0 fl_X10_19 (by decide +kernel) dX10_setSpare_30 ?_
  refine tr_iload_n (i := 1) dX10_setSpare_33 rfl ?_
  refine tr_c_a (ms_cV (rest := []) (al := [.int l1]) 6 (sp_X6_told G hG (d - 1) (by omega) s4 (ms_rf l0 1) l1 (rk_10_1 h0)) (rk_10_1 h0) (by decide +kernel) kl_X10_148 fv_X6_told dX10_setSpare_34 (show _ = some 1 by decide +kernel) (by omega) (Nat.le_of_ble_eq_true rfl) (by decide) (by decide)) (fun v5 e_v5 => ?_)
  refine tr_astore_n (lv' := [(2, .int l2), (3, .ref v5)]) [3, 0] dX10_setSpare_37 (by decide) rfl ?_
  refine tr_aload_n (i := 1) dX10_setSpare_38 rfl ?_
  refine tr_getI 7 (ra_X6_told (rk_10_1 h0) e_v5) fl_X10_353 (by decide +kernel) dX10_setSpare_39 ?_
  refine tr_ifeq (o := none) (tgt := 49) dX10_setSpare_42 (by decide) ?_ ?_
  · refine tr_iconst (v := 0) dX10_setSpare_49 (by decide +kernel) ?_
    refine tr_istore (lv' := [(2, .int l2), (3, .ref v5), (4, .int 0)]) [1, 2, 0] dX10_setSpare_50 (by decide) rfl ?_
    refine tr_aload_n (i := 1) dX10_setSpare_52 rfl ?_
    refine tr_iload_n (i := 0) dX10_setSpare_53 rfl ?_
    refine tr_putZ 7 (ra_X6_told (rk_10_1 h0) e_v5) fl_X10_353 (by decide +kernel) dX10_setSpare_54 ?_
    refine ms_ltS (fun s7 => ?_)
    refine tr_iload (i := 2) dX10_setSpare_57 rfl ?_
    exact tr_iret rfl rfl (by decide) (by decide) dX10_setSpare_59
  · refine tr_iconst (v := 1) dX10_setSpare_45 (by decide +kernel) ?_
    refine tr_goto (tgt := 50) dX10_setSpare_46 (by decide) ?_
    refine tr_istore (lv' := [(2, .int l2), (3, .ref v5), (4, .int 1)]) [1, 2, 0] dX10_setSpare_50 (by decide) rfl ?_
    refine tr_aload_n (i := 1) dX10_setSpare_52 rfl ?_
    refine tr_iload_n (i := 0) dX10_setSpare_53 rfl ?_
    refine tr_putZ 7 (ra_X6_told (rk_10_1 h0) e_v5) fl_X10_353 (by decide +kernel) dX10_setSpare_54 ?_
    refine ms_ltS (fun s9 => ?_)
    refine tr_iload (i := 2) dX10_setSpare_57 rfl ?_
    exact tr_iret rfl rfl (by decide) (by decide) dX10_setSpare_59
theorem dX10_writeName_0 : decode cX10_writeName 0 = .ok (.aload_n 1, 1) := by decide +kernel
theorem dX10_writeName_1 : decode cX10_writeName 1 = .ok (.getfield 152, 3) := by decide +kernel
theorem dX10_writeName_4 : decode cX10_writeName 4 = .ok (.iconst 1, 1) := by decide +kernel
theorem dX10_writeName_5 : decode cX10_writeName 5 = .ok (.if_icmp .ne 15, 3) := by decide +kernel
theorem dX10_writeName_8 : decode cX10_writeName 8 = .ok (.aload_n 0, 1) := by decide +kernel
theorem dX10_writeName_9 : decode cX10_writeName 9 = .ok (.getfield 86, 3) := by decide +kernel
theorem dX10_writeName_12 : decode cX10_writeName 12 = .ok (.bipush 43, 2) := by decide +kernel
theorem dX10_writeName_14 : decode cX10_writeName 14 = .ok (.invokevirtual 189, 3) := by decide +kernel
theorem dX10_writeName_17 : decode cX10_writeName 17 = .ok (.goto 20, 3) := by decide +kernel
theorem dX10_writeName_20 : decode cX10_writeName 20 = .ok (.aload_n 1, 1) := by decide +kernel
theorem dX10_writeName_21 : decode cX10_writeName 21 = .ok (.getfield 152, 3) := by decide +kernel
theorem dX10_writeName_24 : decode cX10_writeName 24 = .ok (.iconst 2, 1) := by decide +kernel
theorem dX10_writeName_25 : decode cX10_writeName 25 = .ok (.if_icmp .ne 12, 3) := by decide +kernel
theorem dX10_writeName_28 : decode cX10_writeName 28 = .ok (.aload_n 0, 1) := by decide +kernel
theorem dX10_writeName_29 : decode cX10_writeName 29 = .ok (.getfield 86, 3) := by decide +kernel
theorem dX10_writeName_32 : decode cX10_writeName 32 = .ok (.bipush 42, 2) := by decide +kernel
theorem dX10_writeName_34 : decode cX10_writeName 34 = .ok (.invokevirtual 189, 3) := by decide +kernel
theorem dX10_writeName_37 : decode cX10_writeName 37 = .ok (.iconst 0, 1) := by decide +kernel
theorem dX10_writeName_38 : decode cX10_writeName 38 = .ok (.istore_n 2, 1) := by decide +kernel
theorem dX10_writeName_39 : decode cX10_writeName 39 = .ok (.iload_n 2, 1) := by decide +kernel
theorem dX10_writeName_40 : decode cX10_writeName 40 = .ok (.iconst 4, 1) := by decide +kernel
theorem dX10_writeName_41 : decode cX10_writeName 41 = .ok (.if_icmp .ge 28, 3) := by decide +kernel
theorem dX10_writeName_44 : decode cX10_writeName 44 = .ok (.aload_n 1, 1) := by decide +kernel
theorem dX10_writeName_45 : decode cX10_writeName 45 = .ok (.iload_n 2, 1) := by decide +kernel
theorem dX10_writeName_46 : decode cX10_writeName 46 = .ok (.invokevirtual 170, 3) := by decide +kernel
theorem dX10_writeName_49 : decode cX10_writeName 49 = .ok (.istore_n 3, 1) := by decide +kernel
theorem dX10_writeName_50 : decode cX10_writeName 50 = .ok (.iload_n 3, 1) := by decide +kernel
theorem dX10_writeName_51 : decode cX10_writeName 51 = .ok (.iconst (-1), 1) := by decide +kernel
theorem dX10_writeName_52 : decode cX10_writeName 52 = .ok (.if_icmp .eq 11, 3) := by decide +kernel
theorem dX10_writeName_55 : decode cX10_writeName 55 = .ok (.aload_n 0, 1) := by decide +kernel
theorem dX10_writeName_56 : decode cX10_writeName 56 = .ok (.getfield 86, 3) := by decide +kernel
theorem dX10_writeName_59 : decode cX10_writeName 59 = .ok (.iload_n 3, 1) := by decide +kernel
theorem dX10_writeName_60 : decode cX10_writeName 60 = .ok (.invokevirtual 189, 3) := by decide +kernel
theorem dX10_writeName_63 : decode cX10_writeName 63 = .ok (.iinc 2 1, 3) := by decide +kernel
theorem dX10_writeName_66 : decode cX10_writeName 66 = .ok (.goto (-27), 3) := by decide +kernel
theorem dX10_writeName_69 : decode cX10_writeName 69 = .ok (.return_, 1) := by decide +kernel
set_option maxRecDepth 100000 in
theorem t_X10_writeName_39 (G : MG) (hG : (g_l G).stackTraces = false) (d : Nat) (hd : 1 ≤ d)    : ∀ (n : Nat) (σ : MsSt) (l0 : Nat) (l1 : Nat) (l2 : Int32) (h0 : ms_kd l0 = 11) (h1 : ms_kd l1 = 8), TrO G mX10_writeName d 0 0 0 0 ms_wv 39 [(0, .ref l0), (1, .ref l1), (2, .int l2)] [] σ (f_X10_writeName_39 n σ l0 l1 l2) := by
  intro n
  induction n with
  | zero => exact fun _ _ _ _ _ _ => tr_none
  | succ n ih =>
    intro σ l0 l1 l2 h0 h1
    show TrO G mX10_writeName d 0 0 0 0 ms_wv 39 [(0, .ref l0), (1, .ref l1), (2, .int l2)] [] σ (if l2 < 4 then (f_X7_letterAt σ l1 l2).bind fun v1 => if v1 = (-1) then (f_X10_writeName_39 n) σ l0 l1 (l2 + 1) else (f_X5_add σ (ms_rf l0 11) v1).bind fun s2 => (f_X10_writeName_39 n) s2 l0 l1 (l2 + 1) else some σ)
    refine tr_iload_n (i := 2) dX10_writeName_39 rfl ?_
    refine tr_iconst (v := 4) dX10_writeName_40 (by decide +kernel) ?_
    refine tr_icge (o := none) (tgt := 69) dX10_writeName_41 (by decide) ?_ ?_
    · exact tr_vret rfl rfl (by decide) (by decide) dX10_writeName_69
    · refine tr_aload_n (i := 1) dX10_writeName_44 rfl ?_
      refine tr_iload_n (i := 2) dX10_writeName_45 rfl ?_
      refine tr_c_i (ms_cV (rest := []) (al := [.int l2]) 7 (sp_X7_letterAt G hG (d - 1) (by omega) σ l1 l2 h1) h1 (by decide +kernel) kl_X10_170 fv_X7_letterAt dX10_writeName_46 (show _ = some 1 by decide +kernel) (by omega) (Nat.le_of_ble_eq_true rfl) (by decide) (by decide)) (fun v1 => ?_)
      refine tr_istore_n (lv' := [(0, .ref l0), (1, .ref l1), (2, .int l2), (3, .int v1)]) [1, 2, 3, 0] dX10_writeName_49 (by decide) rfl ?_
      refine tr_iload_n (i := 3) dX10_writeName_50 rfl ?_
      refine tr_iconst (v := (-1)) dX10_writeName_51 (by decide +kernel) ?_
      refine tr_iceq (o := none) (tgt := 63) dX10_writeName_52 (by decide) ?_ ?_
      · refine tr_iinc (k := 2) (v := (l2 + 1)) (lv' := [(0, .ref l0), (1, .ref l1), (2, .int (l2 + 1))]) [1, 2, 0] dX10_writeName_63 rfl rfl (by decide) rfl ?_
        refine tr_goto (tgt := 39) dX10_writeName_66 (by decide) ?_
        exact (fun s y0 y1 y2 g0 g1 => ih s y0 y1 y2 g0 g1) σ l0 l1 (l2 + 1) h0 h1
      · refine tr_aload_n (i := 0) dX10_writeName_55 rfl ?_
        refine tr_getR 10 h0 fl_X10_86 (by decide +kernel) dX10_writeName_56 ?_
        refine tr_iload_n (i := 3) dX10_writeName_59 rfl ?_
        refine tr_c_wv (ms_cV (rest := []) (al := [.int v1]) 5 (sp_X5_add G hG (d - 1) (by omega) σ (ms_rf l0 11) v1 (rk_10_11 h0)) (rk_10_11 h0) (by decide +kernel) kl_X10_189 fv_X5_add dX10_writeName_60 (show _ = some 1 by decide +kernel) (by omega) (Nat.le_of_ble_eq_true rfl) (by decide) (by decide)) (fun s2 => ?_)
        refine tr_iinc (k := 2) (v := (l2 + 1)) (lv' := [(0, .ref l0), (1, .ref l1), (2, .int (l2 + 1))]) [1, 2, 0] dX10_writeName_63 rfl rfl (by decide) rfl ?_
        refine tr_goto (tgt := 39) dX10_writeName_66 (by decide) ?_
        exact (fun s y0 y1 y2 g0 g1 => ih s y0 y1 y2 g0 g1) s2 l0 l1 (l2 + 1) h0 h1
set_option maxRecDepth 100000 in
theorem sp_X10_writeName (G : MG) (hG : (g_l G).stackTraces = false) (d : Nat) (hd : 1 ≤ d)   (σ : MsSt) (l0 : Nat) (l1 : Nat) (h0 : ms_kd l0 = 11) (h1 : ms_kd l1 = 8) : MsSpec G mX10_writeName d 0 0 [.ref l0, .ref l1] σ ms_wv (f_X10_writeName σ l0 l1) := by
  refine ms_start (by decide +kernel) rfl rfl (Nat.le_of_ble_eq_true rfl) ?_
  show TrO G mX10_writeName d 0 0 0 0 ms_wv 0 [(0, .ref l0), (1, .ref l1)] [] σ (if (ms_i σ l1 1) = 1 then (f_X5_add σ (ms_rf l0 11) 43).bind fun s4 => f_X10_writeName_39 ms_fuel s4 l0 l1 0 else if (ms_i σ l1 1) = 2 then (f_X5_add σ (ms_rf l0 11) 42).bind fun s3 => f_X10_writeName_39 ms_fuel s3 l0 l1 0 else f_X10_writeName_39 ms_fuel σ l0 l1 0)
  refine tr_aload_n (i := 1) dX10_writeName_0 rfl ?_
  refine tr_getI 7 h1 fl_X10_152 (by decide +kernel) dX10_writeName_1 ?_
  refine tr_iconst (v := 1) dX10_writeName_4 (by decide +kernel) ?_
  refine tr_icne (o := none) (tgt := 20) dX10_writeName_5 (by decide) ?_ ?_
  · refine tr_aload_n (i := 1) dX10_writeName_20 rfl ?_
    refine tr_getI 7 h1 fl_X10_152 (by decide +kernel) dX10_writeName_21 ?_
    refine tr_iconst (v := 2) dX10_writeName_24 (by decide +kernel) ?_
    refine tr_icne (o := none) (tgt := 37) dX10_writeName_25 (by decide) ?_ ?_
    · refine tr_iconst (v := 0) dX10_writeName_37 (by decide +kernel) ?_
      refine tr_istore_n (lv' := [(0, .ref l0), (1, .ref l1), (2, .int 0)]) [1, 2, 0] dX10_writeName_38 (by decide) rfl ?_
      exact t_X10_writeName_39 G hG d hd ms_fuel σ l0 l1 0 h0 h1
    · refine tr_aload_n (i := 0) dX10_writeName_28 rfl ?_
      refine tr_getR 10 h0 fl_X10_86 (by decide +kernel) dX10_writeName_29 ?_
      refine tr_bipush (v := 42) dX10_writeName_32 (by decide +kernel) ?_
      refine tr_c_wv (ms_cV (rest := []) (al := [.int 42]) 5 (sp_X5_add G hG (d - 1) (by omega) σ (ms_rf l0 11) 42 (rk_10_11 h0)) (rk_10_11 h0) (by decide +kernel) kl_X10_189 fv_X5_add dX10_writeName_34 (show _ = some 1 by decide +kernel) (by omega) (Nat.le_of_ble_eq_true rfl) (by decide) (by decide)) (fun s3 => ?_)
      refine tr_iconst (v := 0) dX10_writeName_37 (by decide +kernel) ?_
      refine tr_istore_n (lv' := [(0, .ref l0), (1, .ref l1), (2, .int 0)]) [1, 2, 0] dX10_writeName_38 (by decide) rfl ?_
      exact t_X10_writeName_39 G hG d hd ms_fuel s3 l0 l1 0 h0 h1
  · refine tr_aload_n (i := 0) dX10_writeName_8 rfl ?_
    refine tr_getR 10 h0 fl_X10_86 (by decide +kernel) dX10_writeName_9 ?_
    refine tr_bipush (v := 43) dX10_writeName_12 (by decide +kernel) ?_
    refine tr_c_wv (ms_cV (rest := []) (al := [.int 43]) 5 (sp_X5_add G hG (d - 1) (by omega) σ (ms_rf l0 11) 43 (rk_10_11 h0)) (rk_10_11 h0) (by decide +kernel) kl_X10_189 fv_X5_add dX10_writeName_14 (show _ = some 1 by decide +kernel) (by omega) (Nat.le_of_ble_eq_true rfl) (by decide) (by decide)) (fun s4 => ?_)
    refine tr_goto (tgt := 37) dX10_writeName_17 (by decide) ?_
    refine tr_iconst (v := 0) dX10_writeName_37 (by decide +kernel) ?_
    refine tr_istore_n (lv' := [(0, .ref l0), (1, .ref l1), (2, .int 0)]) [1, 2, 0] dX10_writeName_38 (by decide) rfl ?_
    exact t_X10_writeName_39 G hG d hd ms_fuel s4 l0 l1 0 h0 h1
theorem dX10_format_0 : decode cX10_format 0 = .ok (.aload_n 0, 1) := by decide +kernel
theorem dX10_format_1 : decode cX10_format 1 = .ok (.iload_n 1, 1) := by decide +kernel
theorem dX10_format_2 : decode cX10_format 2 = .ok (.invokevirtual 202, 3) := by decide +kernel
theorem dX10_format_5 : decode cX10_format 5 = .ok (.iload_n 2, 1) := by decide +kernel
theorem dX10_format_6 : decode cX10_format 6 = .ok (.iconst 0, 1) := by decide +kernel
theorem dX10_format_7 : decode cX10_format 7 = .ok (.iconst 2, 1) := by decide +kernel
theorem dX10_format_8 : decode cX10_format 8 = .ok (.invokestatic 128, 3) := by decide +kernel
theorem dX10_format_11 : decode cX10_format 11 = .ok (.aload_n 0, 1) := by decide +kernel
theorem dX10_format_12 : decode cX10_format 12 = .ok (.iload_n 1, 1) := by decide +kernel
theorem dX10_format_13 : decode cX10_format 13 = .ok (.iload_n 2, 1) := by decide +kernel
theorem dX10_format_14 : decode cX10_format 14 = .ok (.invokevirtual 233, 3) := by decide +kernel
theorem dX10_format_17 : decode cX10_format 17 = .ok (.astore_n 3, 1) := by decide +kernel
theorem dX10_format_18 : decode cX10_format 18 = .ok (.aload_n 0, 1) := by decide +kernel
theorem dX10_format_19 : decode cX10_format 19 = .ok (.getfield 86, 3) := by decide +kernel
theorem dX10_format_22 : decode cX10_format 22 = .ok (.invokevirtual 186, 3) := by decide +kernel
theorem dX10_format_25 : decode cX10_format 25 = .ok (.iconst 0, 1) := by decide +kernel
theorem dX10_format_26 : decode cX10_format 26 = .ok (.istore 4, 2) := by decide +kernel
theorem dX10_format_28 : decode cX10_format 28 = .ok (.iload 4, 2) := by decide +kernel
theorem dX10_format_30 : decode cX10_format 30 = .ok (.aload_n 3, 1) := by decide +kernel
theorem dX10_format_31 : decode cX10_format 31 = .ok (.getfield 209, 3) := by decide +kernel
theorem dX10_format_34 : decode cX10_format 34 = .ok (.if_icmp .ge 40, 3) := by decide +kernel
theorem dX10_format_37 : decode cX10_format 37 = .ok (.iload 4, 2) := by decide +kernel
theorem dX10_format_39 : decode cX10_format 39 = .ok (.ifCond .le 12, 3) := by decide +kernel
theorem dX10_format_42 : decode cX10_format 42 = .ok (.aload_n 0, 1) := by decide +kernel
theorem dX10_format_43 : decode cX10_format 43 = .ok (.getfield 86, 3) := by decide +kernel
theorem dX10_format_46 : decode cX10_format 46 = .ok (.bipush 32, 2) := by decide +kernel
theorem dX10_format_48 : decode cX10_format 48 = .ok (.invokevirtual 189, 3) := by decide +kernel
theorem dX10_format_51 : decode cX10_format 51 = .ok (.aload_n 0, 1) := by decide +kernel
theorem dX10_format_52 : decode cX10_format 52 = .ok (.aload_n 0, 1) := by decide +kernel
theorem dX10_format_53 : decode cX10_format 53 = .ok (.getfield 19, 3) := by decide +kernel
theorem dX10_format_56 : decode cX10_format 56 = .ok (.aload_n 3, 1) := by decide +kernel
theorem dX10_format_57 : decode cX10_format 57 = .ok (.iload 4, 2) := by decide +kernel
theorem dX10_format_59 : decode cX10_format 59 = .ok (.invokevirtual 199, 3) := by decide +kernel
theorem dX10_format_62 : decode cX10_format 62 = .ok (.invokevirtual 148, 3) := by decide +kernel
theorem dX10_format_65 : decode cX10_format 65 = .ok (.invokevirtual 356, 3) := by decide +kernel
theorem dX10_format_68 : decode cX10_format 68 = .ok (.iinc 4 1, 3) := by decide +kernel
theorem dX10_format_71 : decode cX10_format 71 = .ok (.goto (-43), 3) := by decide +kernel
theorem dX10_format_74 : decode cX10_format 74 = .ok (.aload_n 0, 1) := by decide +kernel
theorem dX10_format_75 : decode cX10_format 75 = .ok (.getfield 86, 3) := by decide +kernel
theorem dX10_format_78 : decode cX10_format 78 = .ok (.getfield 209, 3) := by decide +kernel
theorem dX10_format_81 : decode cX10_format 81 = .ok (.ireturn, 1) := by decide +kernel
set_option maxRecDepth 100000 in
theorem t_X10_format_51 (G : MG) (hG : (g_l G).stackTraces = false) (d : Nat) (hd : 8 ≤ d)   (k28 : MsSt → Nat → Nat → Int32 → Option ((Int32 ⊕ Nat) × MsSt)) (hk28 : ∀ (s : MsSt) (x1 : Nat) (x2 : Nat) (x3 : Int32), ms_kd x1 = 11 → ms_kd x2 = 6 → TrO G mX10_format d 2 12 2 12 ms_ui 28 [(0, .ref x1), (3, .ref x2), (4, .int x3)] [] s (k28 s x1 x2 x3)) (σ : MsSt) (l0 : Nat) (l3 : Nat) (l4 : Int32) (h0 : ms_kd l0 = 11) (h3 : ms_kd l3 = 6) : TrO G mX10_format d 2 12 2 12 ms_ui 51 [(0, .ref l0), (3, .ref l3), (4, .int l4)] [] σ (f_X10_format_51 k28 σ l0 l3 l4) := by
  show TrO G mX10_format d 2 12 2 12 ms_ui 51 [(0, .ref l0), (3, .ref l3), (4, .int l4)] [] σ ((f_X5_get σ l3 l4).bind fun v6 => (f_X6_told σ (ms_rf l0 1) v6).bind fun v7 => (f_X10_writeName σ l0 v7).bind fun s8 => k28 s8 l0 l3 (l4 + 1))
  refine tr_aload_n (i := 0) dX10_format_51 rfl ?_
  refine tr_aload_n (i := 0) dX10_format_52 rfl ?_
  refine tr_getR 10 h0 fl_X10_19 (by decide +kernel) dX10_format_53 ?_
  refine tr_aload_n (i := 1) dX10_format_56 rfl ?_
  refine tr_iload (i := 2) dX10_format_57 rfl ?_
  refine tr_c_i (ms_cV (rest := [.ref (ms_rf l0 1), .ref l0]) (al := [.int l4]) 5 (sp_X5_get G hG (d - 1) (by omega) σ l3 l4 h3) h3 (by decide +kernel) kl_X10_199 fv_X5_get dX10_format_59 (show _ = some 1 by decide +kernel) (by omega) (Nat.le_of_ble_eq_true rfl) (by decide) (by decide)) (fun v6 => ?_)
  refine tr_c_a (ms_cV (rest := [.ref l0]) (al := [.int v6]) 6 (sp_X6_told G hG (d - 1) (by omega) σ (ms_rf l0 1) v6 (rk_10_1 h0)) (rk_10_1 h0) (by decide +kernel) kl_X10_148 fv_X6_told dX10_format_62 (show _ = some 1 by decide +kernel) (by omega) (Nat.le_of_ble_eq_true rfl) (by decide) (by decide)) (fun v7 e_v7 => ?_)
  refine tr_c_wv (ms_cV (rest := []) (al := [.ref v7]) 10 (sp_X10_writeName G hG (d - 1) (by omega) σ l0 v7 h0 (ra_X6_told (rk_10_1 h0) e_v7)) h0 (by decide +kernel) kl_X10_356 fv_X10_writeName dX10_format_65 (show _ = some 1 by decide +kernel) (by omega) (Nat.le_of_ble_eq_true rfl) (by decide) (by decide)) (fun s8 => ?_)
  refine tr_iinc (k := 2) (v := (l4 + 1)) (lv' := [(0, .ref l0), (3, .ref l3), (4, .int (l4 + 1))]) [1, 2, 0] dX10_format_68 rfl rfl (by decide) rfl ?_
  refine tr_goto (tgt := 28) dX10_format_71 (by decide) ?_
  exact hk28 s8 l0 l3 (l4 + 1) h0 h3
set_option maxRecDepth 100000 in
theorem t_X10_format_28 (G : MG) (hG : (g_l G).stackTraces = false) (d : Nat) (hd : 8 ≤ d)    : ∀ (n : Nat) (σ : MsSt) (l0 : Nat) (l3 : Nat) (l4 : Int32) (h0 : ms_kd l0 = 11) (h3 : ms_kd l3 = 6), TrO G mX10_format d 2 12 2 12 ms_ui 28 [(0, .ref l0), (3, .ref l3), (4, .int l4)] [] σ (f_X10_format_28 n σ l0 l3 l4) := by
  intro n
  induction n with
  | zero => exact fun _ _ _ _ _ _ => tr_none
  | succ n ih =>
    intro σ l0 l3 l4 h0 h3
    show TrO G mX10_format d 2 12 2 12 ms_ui 28 [(0, .ref l0), (3, .ref l3), (4, .int l4)] [] σ (if l4 < (ms_i σ l3 1) then if 0 < l4 then (f_X5_add σ (ms_rf l0 11) 32).bind fun s9 => f_X10_format_51 (f_X10_format_28 n) s9 l0 l3 l4 else f_X10_format_51 (f_X10_format_28 n) σ l0 l3 l4 else some (.inl (ms_i σ (ms_rf l0 11) 1), σ))
    refine tr_iload (i := 2) dX10_format_28 rfl ?_
    refine tr_aload_n (i := 1) dX10_format_30 rfl ?_
    refine tr_getI 5 h3 fl_X10_209 (by decide +kernel) dX10_format_31 ?_
    refine tr_icge (o := none) (tgt := 74) dX10_format_34 (by decide) ?_ ?_
    · refine tr_aload_n (i := 0) dX10_format_74 rfl ?_
      refine tr_getR 10 h0 fl_X10_86 (by decide +kernel) dX10_format_75 ?_
      refine tr_getI 5 (rk_10_11 h0) fl_X10_209 (by decide +kernel) dX10_format_78 ?_
      exact tr_iret rfl rfl (by decide) (by decide) dX10_format_81
    · refine tr_iload (i := 2) dX10_format_37 rfl ?_
      refine tr_ifle (o := none) (tgt := 51) dX10_format_39 (by decide) ?_ ?_
      · exact t_X10_format_51 G hG d hd (f_X10_format_28 n) (fun s y0 y1 y2 g0 g1 => ih s y0 y1 y2 g0 g1) σ l0 l3 l4 h0 h3
      · refine tr_aload_n (i := 0) dX10_format_42 rfl ?_
        refine tr_getR 10 h0 fl_X10_86 (by decide +kernel) dX10_format_43 ?_
        refine tr_bipush (v := 32) dX10_format_46 (by decide +kernel) ?_
        refine tr_c_wv (ms_cV (rest := []) (al := [.int 32]) 5 (sp_X5_add G hG (d - 1) (by omega) σ (ms_rf l0 11) 32 (rk_10_11 h0)) (rk_10_11 h0) (by decide +kernel) kl_X10_189 fv_X5_add dX10_format_48 (show _ = some 1 by decide +kernel) (by omega) (Nat.le_of_ble_eq_true rfl) (by decide) (by decide)) (fun s9 => ?_)
        exact t_X10_format_51 G hG d hd (f_X10_format_28 n) (fun s y0 y1 y2 g0 g1 => ih s y0 y1 y2 g0 g1) s9 l0 l3 l4 h0 h3
set_option maxRecDepth 100000 in
theorem sp_X10_format (G : MG) (hG : (g_l G).stackTraces = false) (d : Nat) (hd : 8 ≤ d)   (σ : MsSt) (l0 : Nat) (l1 : Int32) (l2 : Int32) (h0 : ms_kd l0 = 11) : MsSpec G mX10_format d 2 12 [.ref l0, .int l1, .int l2] σ ms_ui (f_X10_format σ l0 l1 l2) := by
  refine ms_start (by decide +kernel) rfl rfl (Nat.le_of_ble_eq_true rfl) ?_
  show TrO G mX10_format d 2 12 0 0 ms_ui 0 [(0, .ref l0), (1, .int l1), (2, .int l2)] [] σ (ms_bt (f_X10_needLine σ l0 l1) (ms_bt (f_X10_needIn σ l2 0 2) (ms_b2 (f_X10_rowOf σ l0 l1 l2) fun v3 s4 => (f_X5_clear s4 (ms_rf l0 11)).bind fun s5 => f_X10_format_28 ms_fuel s5 l0 v3 0) (fun e2 => some (.inr e2, σ))) (fun e1 => some (.inr e1, σ)))
  refine tr_aload_n (i := 0) dX10_format_0 rfl ?_
  refine tr_iload_n (i := 1) dX10_format_1 rfl ?_
  refine tr_d_tv (ms_cV (rest := []) (al := [.int l1]) 10 (sp_X10_needLine G hG (d - 1) (by omega) σ l0 l1 h0) h0 (by decide +kernel) kl_X10_202 fv_X10_needLine dX10_format_2 (show _ = some 1 by decide +kernel) (by omega) (Nat.le_of_ble_eq_true rfl) (by decide) (by decide)) rfl (by decide) (by decide) ?_ (fun e0 r h => by cases h; rfl)
  refine tr_iload_n (i := 2) dX10_format_5 rfl ?_
  refine tr_iconst (v := 0) dX10_format_6 (by decide +kernel) ?_
  refine tr_iconst (v := 2) dX10_format_7 (by decide +kernel) ?_
  refine tr_d_tv (ms_cS (rest := []) (al := [.int l2, .int 0, .int 2]) (sp_X10_needIn G hG (d - 1) (by omega) σ l2 0 2) kl_X10_128 fs_X10_needIn dX10_format_8 (show _ = some 3 by decide +kernel) (by omega) (Nat.le_of_ble_eq_true rfl) (by decide) (by decide)) rfl (by decide) (by decide) ?_ (fun e0 r h => by cases h; rfl)
  refine tr_aload_n (i := 0) dX10_format_11 rfl ?_
  refine tr_iload_n (i := 1) dX10_format_12 rfl ?_
  refine tr_iload_n (i := 2) dX10_format_13 rfl ?_
  refine tr_d_wa (ms_cV (rest := []) (al := [.int l1, .int l2]) 10 (sp_X10_rowOf G hG (d - 1) (by omega) σ l0 l1 l2 h0) h0 (by decide +kernel) kl_X10_233 fv_X10_rowOf dX10_format_14 (show _ = some 2 by decide +kernel) (by omega) (Nat.le_of_ble_eq_true rfl) (by decide) (by decide)) (fun v3 s4 e_v3 => ?_)
  refine tr_astore_n (lv' := [(0, .ref l0), (3, .ref v3)]) [1, 0] dX10_format_17 (by decide) rfl ?_
  refine tr_aload_n (i := 0) dX10_format_18 rfl ?_
  refine tr_getR 10 h0 fl_X10_86 (by decide +kernel) dX10_format_19 ?_
  refine tr_c_wv (ms_cV (rest := []) (al := []) 5 (sp_X5_clear G hG (d - 1) (by omega) s4 (ms_rf l0 11) (rk_10_11 h0)) (rk_10_11 h0) (by decide +kernel) kl_X10_186 fv_X5_clear dX10_format_22 (show _ = some 0 by decide +kernel) (by omega) (Nat.le_of_ble_eq_true rfl) (by decide) (by decide)) (fun s5 => ?_)
  refine tr_iconst (v := 0) dX10_format_25 (by decide +kernel) ?_
  refine tr_istore (lv' := [(0, .ref l0), (3, .ref v3), (4, .int 0)]) [1, 2, 0] dX10_format_26 (by decide) rfl ?_
  exact t_X10_format_28 G hG d hd ms_fuel s5 l0 v3 0 h0 (ra_X10_rowOf h0 e_v3)
theorem dX10_formattedByte_0 : decode cX10_formattedByte 0 = .ok (.aload_n 0, 1) := by decide +kernel
theorem dX10_formattedByte_1 : decode cX10_formattedByte 1 = .ok (.getfield 86, 3) := by decide +kernel
theorem dX10_formattedByte_4 : decode cX10_formattedByte 4 = .ok (.iload_n 1, 1) := by decide +kernel
theorem dX10_formattedByte_5 : decode cX10_formattedByte 5 = .ok (.invokevirtual 199, 3) := by decide +kernel
theorem dX10_formattedByte_8 : decode cX10_formattedByte 8 = .ok (.ireturn, 1) := by decide +kernel
set_option maxRecDepth 100000 in
theorem sp_X10_formattedByte (G : MG) (hG : (g_l G).stackTraces = false) (d : Nat) (hd : 1 ≤ d)   (σ : MsSt) (l0 : Nat) (l1 : Int32) (h0 : ms_kd l0 = 11) : MsSpec G mX10_formattedByte d 0 0 [.ref l0, .int l1] σ (ms_ki σ) (f_X10_formattedByte σ l0 l1) := by
  refine ms_start (by decide +kernel) rfl rfl (Nat.le_of_ble_eq_true rfl) ?_
  show TrO G mX10_formattedByte d 0 0 0 0 (ms_ki σ) 0 [(0, .ref l0), (1, .int l1)] [] σ ((f_X5_get σ (ms_rf l0 11) l1).bind fun v1 => some v1)
  refine tr_aload_n (i := 0) dX10_formattedByte_0 rfl ?_
  refine tr_getR 10 h0 fl_X10_86 (by decide +kernel) dX10_formattedByte_1 ?_
  refine tr_iload_n (i := 1) dX10_formattedByte_4 rfl ?_
  refine tr_c_i (ms_cV (rest := []) (al := [.int l1]) 5 (sp_X5_get G hG (d - 1) (by omega) σ (ms_rf l0 11) l1 (rk_10_11 h0)) (rk_10_11 h0) (by decide +kernel) kl_X10_199 fv_X5_get dX10_formattedByte_5 (show _ = some 1 by decide +kernel) (by omega) (Nat.le_of_ble_eq_true rfl) (by decide) (by decide)) (fun v1 => ?_)
  exact tr_iret rfl rfl (by decide) (by decide) dX10_formattedByte_8
theorem dX10_undoCount_0 : decode cX10_undoCount 0 = .ok (.aload_n 0, 1) := by decide +kernel
theorem dX10_undoCount_1 : decode cX10_undoCount 1 = .ok (.getfield 44, 3) := by decide +kernel
theorem dX10_undoCount_4 : decode cX10_undoCount 4 = .ok (.getfield 360, 3) := by decide +kernel
theorem dX10_undoCount_7 : decode cX10_undoCount 7 = .ok (.ireturn, 1) := by decide +kernel
set_option maxRecDepth 100000 in
theorem sp_X10_undoCount (G : MG) (hG : (g_l G).stackTraces = false) (d : Nat) (hd : 0 ≤ d)   (σ : MsSt) (l0 : Nat) (h0 : ms_kd l0 = 11) : MsSpec G mX10_undoCount d 0 0 [.ref l0] σ (ms_ki σ) (f_X10_undoCount σ l0) := by
  refine ms_start (by decide +kernel) rfl rfl (Nat.le_of_ble_eq_true rfl) ?_
  show TrO G mX10_undoCount d 0 0 0 0 (ms_ki σ) 0 [(0, .ref l0)] [] σ (some (ms_i σ (ms_rf l0 4) 2))
  refine tr_aload_n (i := 0) dX10_undoCount_0 rfl ?_
  refine tr_getR 10 h0 fl_X10_44 (by decide +kernel) dX10_undoCount_1 ?_
  refine tr_getI 2 (rk_10_4 h0) fl_X10_360 (by decide +kernel) dX10_undoCount_4 ?_
  exact tr_iret rfl rfl (by decide) (by decide) dX10_undoCount_7
theorem dX10_undo_0 : decode cX10_undo 0 = .ok (.aload_n 0, 1) := by decide +kernel
theorem dX10_undo_1 : decode cX10_undo 1 = .ok (.getfield 44, 3) := by decide +kernel
theorem dX10_undo_4 : decode cX10_undo 4 = .ok (.aload_n 0, 1) := by decide +kernel
theorem dX10_undo_5 : decode cX10_undo 5 = .ok (.getfield 19, 3) := by decide +kernel
theorem dX10_undo_8 : decode cX10_undo 8 = .ok (.invokevirtual 361, 3) := by decide +kernel
theorem dX10_undo_11 : decode cX10_undo 11 = .ok (.ireturn, 1) := by decide +kernel
set_option maxRecDepth 100000 in
theorem sp_X10_undo (G : MG) (hG : (g_l G).stackTraces = false) (d : Nat) (hd : 5 ≤ d)   (σ : MsSt) (l0 : Nat) (h0 : ms_kd l0 = 11) : MsSpec G mX10_undo d 0 0 [.ref l0] σ ms_wi (f_X10_undo σ l0) := by
  refine ms_start (by decide +kernel) rfl rfl (Nat.le_of_ble_eq_true rfl) ?_
  show TrO G mX10_undo d 0 0 0 0 ms_wi 0 [(0, .ref l0)] [] σ (ms_b2 (f_X2_takeBack σ (ms_rf l0 4) (ms_rf l0 1)) fun v1 s2 => some (v1, s2))
  refine tr_aload_n (i := 0) dX10_undo_0 rfl ?_
  refine tr_getR 10 h0 fl_X10_44 (by decide +kernel) dX10_undo_1 ?_
  refine tr_aload_n (i := 0) dX10_undo_4 rfl ?_
  refine tr_getR 10 h0 fl_X10_19 (by decide +kernel) dX10_undo_5 ?_
  refine tr_d_wi (ms_cV (rest := []) (al := [.ref (ms_rf l0 1)]) 2 (sp_X2_takeBack G hG (d - 1) (by omega) σ (ms_rf l0 4) (ms_rf l0 1) (rk_10_4 h0) (rk_10_1 h0)) (rk_10_4 h0) (by decide +kernel) kl_X10_361 fv_X2_takeBack dX10_undo_8 (show _ = some 1 by decide +kernel) (by omega) (Nat.le_of_ble_eq_true rfl) (by decide) (by decide)) (fun v1 s2 => ?_)
  exact tr_iret rfl rfl (by decide) (by decide) dX10_undo_11
theorem dX10_saveSnapshot_0 : decode cX10_saveSnapshot 0 = .ok (.aload_n 0, 1) := by decide +kernel
theorem dX10_saveSnapshot_1 : decode cX10_saveSnapshot 1 = .ok (.getfield 51, 3) := by decide +kernel
theorem dX10_saveSnapshot_4 : decode cX10_saveSnapshot 4 = .ok (.aload_n 0, 1) := by decide +kernel
theorem dX10_saveSnapshot_5 : decode cX10_saveSnapshot 5 = .ok (.getfield 19, 3) := by decide +kernel
theorem dX10_saveSnapshot_8 : decode cX10_saveSnapshot 8 = .ok (.invokevirtual 365, 3) := by decide +kernel
theorem dX10_saveSnapshot_11 : decode cX10_saveSnapshot 11 = .ok (.aload_n 0, 1) := by decide +kernel
theorem dX10_saveSnapshot_12 : decode cX10_saveSnapshot 12 = .ok (.iconst 1, 1) := by decide +kernel
theorem dX10_saveSnapshot_13 : decode cX10_saveSnapshot 13 = .ok (.putfield 89, 3) := by decide +kernel
theorem dX10_saveSnapshot_16 : decode cX10_saveSnapshot 16 = .ok (.return_, 1) := by decide +kernel
set_option maxRecDepth 100000 in
theorem sp_X10_saveSnapshot (G : MG) (hG : (g_l G).stackTraces = false) (d : Nat) (hd : 4 ≤ d)   (σ : MsSt) (l0 : Nat) (h0 : ms_kd l0 = 11) : MsSpec G mX10_saveSnapshot d 0 0 [.ref l0] σ ms_wv (f_X10_saveSnapshot σ l0) := by
  refine ms_start (by decide +kernel) rfl rfl (Nat.le_of_ble_eq_true rfl) ?_
  show TrO G mX10_saveSnapshot d 0 0 0 0 ms_wv 0 [(0, .ref l0)] [] σ ((f_X3_keep σ (ms_rf l0 5) (ms_rf l0 1)).bind fun s1 => ms_nm (ms_si s1 l0 12 1) fun s2 => some s2)
  refine tr_aload_n (i := 0) dX10_saveSnapshot_0 rfl ?_
  refine tr_getR 10 h0 fl_X10_51 (by decide +kernel) dX10_saveSnapshot_1 ?_
  refine tr_aload_n (i := 0) dX10_saveSnapshot_4 rfl ?_
  refine tr_getR 10 h0 fl_X10_19 (by decide +kernel) dX10_saveSnapshot_5 ?_
  refine tr_c_wv (ms_cV (rest := []) (al := [.ref (ms_rf l0 1)]) 3 (sp_X3_keep G hG (d - 1) (by omega) σ (ms_rf l0 5) (ms_rf l0 1) (rk_10_5 h0) (rk_10_1 h0)) (rk_10_5 h0) (by decide +kernel) kl_X10_365 fv_X3_keep dX10_saveSnapshot_8 (show _ = some 1 by decide +kernel) (by omega) (Nat.le_of_ble_eq_true rfl) (by decide) (by decide)) (fun s1 => ?_)
  refine tr_aload_n (i := 0) dX10_saveSnapshot_11 rfl ?_
  refine tr_iconst (v := 1) dX10_saveSnapshot_12 (by decide +kernel) ?_
  refine tr_putB 10 h0 fl_X10_89 (by decide +kernel) (by decide) dX10_saveSnapshot_13 ?_
  refine ms_ltS (fun s2 => ?_)
  exact tr_vret rfl rfl (by decide) (by decide) dX10_saveSnapshot_16
theorem dX10_restoreSnapshot_0 : decode cX10_restoreSnapshot 0 = .ok (.aload_n 0, 1) := by decide +kernel
theorem dX10_restoreSnapshot_1 : decode cX10_restoreSnapshot 1 = .ok (.getfield 89, 3) := by decide +kernel
theorem dX10_restoreSnapshot_4 : decode cX10_restoreSnapshot 4 = .ok (.ifCond .ne 5, 3) := by decide +kernel
theorem dX10_restoreSnapshot_7 : decode cX10_restoreSnapshot 7 = .ok (.iconst 0, 1) := by decide +kernel
theorem dX10_restoreSnapshot_8 : decode cX10_restoreSnapshot 8 = .ok (.ireturn, 1) := by decide +kernel
theorem dX10_restoreSnapshot_9 : decode cX10_restoreSnapshot 9 = .ok (.aload_n 0, 1) := by decide +kernel
theorem dX10_restoreSnapshot_10 : decode cX10_restoreSnapshot 10 = .ok (.getfield 51, 3) := by decide +kernel
theorem dX10_restoreSnapshot_13 : decode cX10_restoreSnapshot 13 = .ok (.aload_n 0, 1) := by decide +kernel
theorem dX10_restoreSnapshot_14 : decode cX10_restoreSnapshot 14 = .ok (.getfield 19, 3) := by decide +kernel
theorem dX10_restoreSnapshot_17 : decode cX10_restoreSnapshot 17 = .ok (.invokevirtual 368, 3) := by decide +kernel
theorem dX10_restoreSnapshot_20 : decode cX10_restoreSnapshot 20 = .ok (.aload_n 0, 1) := by decide +kernel
theorem dX10_restoreSnapshot_21 : decode cX10_restoreSnapshot 21 = .ok (.getfield 44, 3) := by decide +kernel
theorem dX10_restoreSnapshot_24 : decode cX10_restoreSnapshot 24 = .ok (.invokevirtual 122, 3) := by decide +kernel
theorem dX10_restoreSnapshot_27 : decode cX10_restoreSnapshot 27 = .ok (.iconst 1, 1) := by decide +kernel
theorem dX10_restoreSnapshot_28 : decode cX10_restoreSnapshot 28 = .ok (.ireturn, 1) := by decide +kernel
set_option maxRecDepth 100000 in
theorem sp_X10_restoreSnapshot (G : MG) (hG : (g_l G).stackTraces = false) (d : Nat) (hd : 4 ≤ d)   (σ : MsSt) (l0 : Nat) (h0 : ms_kd l0 = 11) : MsSpec G mX10_restoreSnapshot d 0 0 [.ref l0] σ ms_wi (f_X10_restoreSnapshot σ l0) := by
  refine ms_start (by decide +kernel) rfl rfl (Nat.le_of_ble_eq_true rfl) ?_
  show TrO G mX10_restoreSnapshot d 0 0 0 0 ms_wi 0 [(0, .ref l0)] [] σ (if (ms_i σ l0 12) = 0 then some (0, σ) else (f_X3_giveBack σ (ms_rf l0 5) (ms_rf l0 1)).bind fun s1 => (f_X2_forget s1 (ms_rf l0 4)).bind fun s2 => some (1, s2))
  refine tr_aload_n (i := 0) dX10_restoreSnapshot_0 rfl ?_
  refine tr_getI 10 h0 fl_X10_89 (by decide +kernel) dX10_restoreSnapshot_1 ?_
  refine tr_ifne (o := none) (tgt := 9) dX10_restoreSnapshot_4 (by decide) ?_ ?_
  · refine tr_aload_n (i := 0) dX10_restoreSnapshot_9 rfl ?_
    refine tr_getR 10 h0 fl_X10_51 (by decide +kernel) dX10_restoreSnapshot_10 ?_
    refine tr_aload_n (i := 0) dX10_restoreSnapshot_13 rfl ?_
    refine tr_getR 10 h0 fl_X10_19 (by decide +kernel) dX10_restoreSnapshot_14 ?_
    refine tr_c_wv (ms_cV (rest := []) (al := [.ref (ms_rf l0 1)]) 3 (sp_X3_giveBack G hG (d - 1) (by omega) σ (ms_rf l0 5) (ms_rf l0 1) (rk_10_5 h0) (rk_10_1 h0)) (rk_10_5 h0) (by decide +kernel) kl_X10_368 fv_X3_giveBack dX10_restoreSnapshot_17 (show _ = some 1 by decide +kernel) (by omega) (Nat.le_of_ble_eq_true rfl) (by decide) (by decide)) (fun s1 => ?_)
    refine tr_aload_n (i := 0) dX10_restoreSnapshot_20 rfl ?_
    refine tr_getR 10 h0 fl_X10_44 (by decide +kernel) dX10_restoreSnapshot_21 ?_
    refine tr_c_wv (ms_cV (rest := []) (al := []) 2 (sp_X2_forget G hG (d - 1) (by omega) s1 (ms_rf l0 4) (rk_10_4 h0)) (rk_10_4 h0) (by decide +kernel) kl_X10_122 fv_X2_forget dX10_restoreSnapshot_24 (show _ = some 0 by decide +kernel) (by omega) (Nat.le_of_ble_eq_true rfl) (by decide) (by decide)) (fun s2 => ?_)
    refine tr_iconst (v := 1) dX10_restoreSnapshot_27 (by decide +kernel) ?_
    exact tr_zret rfl (by decide +kernel) rfl (by decide) (by decide) dX10_restoreSnapshot_28
  · refine tr_iconst (v := 0) dX10_restoreSnapshot_7 (by decide +kernel) ?_
    exact tr_zret rfl (by decide +kernel) rfl (by decide) (by decide) dX10_restoreSnapshot_8
theorem dX10_query_0 : decode cX10_query 0 = .ok (.aload_n 0, 1) := by decide +kernel
theorem dX10_query_1 : decode cX10_query 1 = .ok (.iload_n 1, 1) := by decide +kernel
theorem dX10_query_2 : decode cX10_query 2 = .ok (.sipush 200, 3) := by decide +kernel
theorem dX10_query_5 : decode cX10_query 5 = .ok (.invokevirtual 107, 3) := by decide +kernel
theorem dX10_query_8 : decode cX10_query 8 = .ok (.aload_n 0, 1) := by decide +kernel
theorem dX10_query_9 : decode cX10_query 9 = .ok (.getfield 37, 3) := by decide +kernel
theorem dX10_query_12 : decode cX10_query 12 = .ok (.iload_n 1, 1) := by decide +kernel
theorem dX10_query_13 : decode cX10_query 13 = .ok (.invokevirtual 371, 3) := by decide +kernel
theorem dX10_query_16 : decode cX10_query 16 = .ok (.istore_n 2, 1) := by decide +kernel
theorem dX10_query_17 : decode cX10_query 17 = .ok (.aload_n 0, 1) := by decide +kernel
theorem dX10_query_18 : decode cX10_query 18 = .ok (.getfield 12, 3) := by decide +kernel
theorem dX10_query_21 : decode cX10_query 21 = .ok (.iconst 0, 1) := by decide +kernel
theorem dX10_query_22 : decode cX10_query 22 = .ok (.putfield 104, 3) := by decide +kernel
theorem dX10_query_25 : decode cX10_query 25 = .ok (.aload_n 0, 1) := by decide +kernel
theorem dX10_query_26 : decode cX10_query 26 = .ok (.aload_n 0, 1) := by decide +kernel
theorem dX10_query_27 : decode cX10_query 27 = .ok (.getfield 12, 3) := by decide +kernel
theorem dX10_query_30 : decode cX10_query 30 = .ok (.getfield 115, 3) := by decide +kernel
theorem dX10_query_33 : decode cX10_query 33 = .ok (.putfield 93, 3) := by decide +kernel
theorem dX10_query_36 : decode cX10_query 36 = .ok (.aload_n 0, 1) := by decide +kernel
theorem dX10_query_37 : decode cX10_query 37 = .ok (.getfield 12, 3) := by decide +kernel
theorem dX10_query_40 : decode cX10_query 40 = .ok (.getfield 374, 3) := by decide +kernel
theorem dX10_query_43 : decode cX10_query 43 = .ok (.ifCond .ne 7, 3) := by decide +kernel
theorem dX10_query_46 : decode cX10_query 46 = .ok (.iload_n 2, 1) := by decide +kernel
theorem dX10_query_47 : decode cX10_query 47 = .ok (.goto 14, 3) := by decide +kernel
theorem dX10_query_50 : decode cX10_query 50 = .ok (.ldc_w 377, 3) := by decide +kernel
theorem dX10_query_53 : decode cX10_query 53 = .ok (.aload_n 0, 1) := by decide +kernel
theorem dX10_query_54 : decode cX10_query 54 = .ok (.getfield 12, 3) := by decide +kernel
theorem dX10_query_57 : decode cX10_query 57 = .ok (.getfield 374, 3) := by decide +kernel
theorem dX10_query_60 : decode cX10_query 60 = .ok (.isub, 1) := by decide +kernel
theorem dX10_query_61 : decode cX10_query 61 = .ok (.ireturn, 1) := by decide +kernel
set_option maxRecDepth 100000 in
theorem sp_X10_query (G : MG) (hG : (g_l G).stackTraces = false) (d : Nat) (hd : 33 ≤ d)   (σ : MsSt) (l0 : Nat) (l1 : Int32) (h0 : ms_kd l0 = 11) : MsSpec G mX10_query d 1 6 [.ref l0, .int l1] σ ms_ui (f_X10_query σ l0 l1) := by
  refine ms_start (by decide +kernel) rfl rfl (Nat.le_of_ble_eq_true rfl) ?_
  show TrO G mX10_query d 1 6 0 0 ms_ui 0 [(0, .ref l0), (1, .int l1)] [] σ (ms_bt (f_X10_needLength σ l0 l1 200) (ms_b2 (f_X4_readQuery σ (ms_rf l0 3) l1) fun v2 s3 => ms_nm (ms_si s3 (ms_rf l0 0) 1 0) fun s4 => ms_nm (ms_si s4 l0 13 (ms_i s4 (ms_rf l0 0) 8)) fun s5 => if (ms_i s5 (ms_rf l0 0) 7) = 0 then some (.inl v2, s5) else some (.inl ((-1000000000) - (ms_i s5 (ms_rf l0 0) 7)), s5)) (fun e1 => some (.inr e1, σ)))
  refine tr_aload_n (i := 0) dX10_query_0 rfl ?_
  refine tr_iload_n (i := 1) dX10_query_1 rfl ?_
  refine tr_sipush (v := 200) dX10_query_2 (by decide +kernel) ?_
  refine tr_d_tv (ms_cV (rest := []) (al := [.int l1, .int 200]) 10 (sp_X10_needLength G hG (d - 1) (by omega) σ l0 l1 200 h0) h0 (by decide +kernel) kl_X10_107 fv_X10_needLength dX10_query_5 (show _ = some 2 by decide +kernel) (by omega) (Nat.le_of_ble_eq_true rfl) (by decide) (by decide)) rfl (by decide) (by decide) ?_ (fun e0 r h => by cases h; rfl)
  refine tr_aload_n (i := 0) dX10_query_8 rfl ?_
  refine tr_getR 10 h0 fl_X10_37 (by decide +kernel) dX10_query_9 ?_
  refine tr_iload_n (i := 1) dX10_query_12 rfl ?_
  refine tr_d_wi (ms_cV (rest := []) (al := [.int l1]) 4 (sp_X4_readQuery G hG (d - 1) (by omega) σ (ms_rf l0 3) l1 (rk_10_3 h0)) (rk_10_3 h0) (by decide +kernel) kl_X10_371 fv_X4_readQuery dX10_query_13 (show _ = some 1 by decide +kernel) (by omega) (Nat.le_of_ble_eq_true rfl) (by decide) (by decide)) (fun v2 s3 => ?_)
  refine tr_istore_n (lv' := [(0, .ref l0), (2, .int v2)]) [1, 0] dX10_query_16 (by decide) rfl ?_
  refine tr_aload_n (i := 0) dX10_query_17 rfl ?_
  refine tr_getR 10 h0 fl_X10_12 (by decide +kernel) dX10_query_18 ?_
  refine tr_iconst (v := 0) dX10_query_21 (by decide +kernel) ?_
  refine tr_putI 9 (rk_10_0 h0) fl_X10_104 (by decide +kernel) dX10_query_22 ?_
  refine ms_ltS (fun s4 => ?_)
  refine tr_aload_n (i := 0) dX10_query_25 rfl ?_
  refine tr_aload_n (i := 0) dX10_query_26 rfl ?_
  refine tr_getR 10 h0 fl_X10_12 (by decide +kernel) dX10_query_27 ?_
  refine tr_getI 9 (rk_10_0 h0) fl_X10_115 (by decide +kernel) dX10_query_30 ?_
  refine tr_putI 10 h0 fl_X10_93 (by decide +kernel) dX10_query_33 ?_
  refine ms_ltS (fun s5 => ?_)
  refine tr_aload_n (i := 0) dX10_query_36 rfl ?_
  refine tr_getR 10 h0 fl_X10_12 (by decide +kernel) dX10_query_37 ?_
  refine tr_getI 9 (rk_10_0 h0) fl_X10_374 (by decide +kernel) dX10_query_40 ?_
  refine tr_ifne (o := none) (tgt := 50) dX10_query_43 (by decide) ?_ ?_
  · refine tr_ldciw (v := (-1000000000)) (List.mem_of_getElem? (i := 1598) (by decide +kernel)) dX10_query_50 ?_
    refine tr_aload_n (i := 0) dX10_query_53 rfl ?_
    refine tr_getR 10 h0 fl_X10_12 (by decide +kernel) dX10_query_54 ?_
    refine tr_getI 9 (rk_10_0 h0) fl_X10_374 (by decide +kernel) dX10_query_57 ?_
    refine tr_isub dX10_query_60 ?_
    exact tr_iret rfl rfl (by decide) (by decide) dX10_query_61
  · refine tr_iload_n (i := 1) dX10_query_46 rfl ?_
    refine tr_goto (tgt := 61) dX10_query_47 (by decide) ?_
    exact tr_iret rfl rfl (by decide) (by decide) dX10_query_61
