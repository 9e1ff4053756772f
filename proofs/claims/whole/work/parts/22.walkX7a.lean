/-! X7: the bytecode does what the functions say (by program: wip/whole/gen) -/
theorem dX7_takeOver_0 : decode cX7_takeOver 0 = .ok (.aload_n 0, 1) := by decide +kernel
theorem dX7_takeOver_1 : decode cX7_takeOver 1 = .ok (.getfield 14, 3) := by decide +kernel
theorem dX7_takeOver_4 : decode cX7_takeOver 4 = .ok (.aload_n 1, 1) := by decide +kernel
theorem dX7_takeOver_5 : decode cX7_takeOver 5 = .ok (.getfield 14, 3) := by decide +kernel
theorem dX7_takeOver_8 : decode cX7_takeOver 8 = .ok (.invokevirtual 74, 3) := by decide +kernel
theorem dX7_takeOver_11 : decode cX7_takeOver 11 = .ok (.aload_n 0, 1) := by decide +kernel
theorem dX7_takeOver_12 : decode cX7_takeOver 12 = .ok (.aload_n 1, 1) := by decide +kernel
theorem dX7_takeOver_13 : decode cX7_takeOver 13 = .ok (.getfield 20, 3) := by decide +kernel
theorem dX7_takeOver_16 : decode cX7_takeOver 16 = .ok (.putfield 20, 3) := by decide +kernel
theorem dX7_takeOver_19 : decode cX7_takeOver 19 = .ok (.aload_n 0, 1) := by decide +kernel
theorem dX7_takeOver_20 : decode cX7_takeOver 20 = .ok (.aload_n 1, 1) := by decide +kernel
theorem dX7_takeOver_21 : decode cX7_takeOver 21 = .ok (.getfield 24, 3) := by decide +kernel
theorem dX7_takeOver_24 : decode cX7_takeOver 24 = .ok (.putfield 24, 3) := by decide +kernel
theorem dX7_takeOver_27 : decode cX7_takeOver 27 = .ok (.aload_n 0, 1) := by decide +kernel
theorem dX7_takeOver_28 : decode cX7_takeOver 28 = .ok (.aload_n 1, 1) := by decide +kernel
theorem dX7_takeOver_29 : decode cX7_takeOver 29 = .ok (.getfield 27, 3) := by decide +kernel
theorem dX7_takeOver_32 : decode cX7_takeOver 32 = .ok (.putfield 27, 3) := by decide +kernel
theorem dX7_takeOver_35 : decode cX7_takeOver 35 = .ok (.aload_n 0, 1) := by decide +kernel
theorem dX7_takeOver_36 : decode cX7_takeOver 36 = .ok (.aload_n 1, 1) := by decide +kernel
theorem dX7_takeOver_37 : decode cX7_takeOver 37 = .ok (.getfield 30, 3) := by decide +kernel
theorem dX7_takeOver_40 : decode cX7_takeOver 40 = .ok (.putfield 30, 3) := by decide +kernel
theorem dX7_takeOver_43 : decode cX7_takeOver 43 = .ok (.aload_n 0, 1) := by decide +kernel
theorem dX7_takeOver_44 : decode cX7_takeOver 44 = .ok (.aload_n 1, 1) := by decide +kernel
theorem dX7_takeOver_45 : decode cX7_takeOver 45 = .ok (.getfield 33, 3) := by decide +kernel
theorem dX7_takeOver_48 : decode cX7_takeOver 48 = .ok (.putfield 33, 3) := by decide +kernel
theorem dX7_takeOver_51 : decode cX7_takeOver 51 = .ok (.aload_n 0, 1) := by decide +kernel
theorem dX7_takeOver_52 : decode cX7_takeOver 52 = .ok (.aload_n 1, 1) := by decide +kernel
theorem dX7_takeOver_53 : decode cX7_takeOver 53 = .ok (.getfield 36, 3) := by decide +kernel
theorem dX7_takeOver_56 : decode cX7_takeOver 56 = .ok (.putfield 36, 3) := by decide +kernel
theorem dX7_takeOver_59 : decode cX7_takeOver 59 = .ok (.aload_n 0, 1) := by decide +kernel
theorem dX7_takeOver_60 : decode cX7_takeOver 60 = .ok (.aload_n 1, 1) := by decide +kernel
theorem dX7_takeOver_61 : decode cX7_takeOver 61 = .ok (.getfield 39, 3) := by decide +kernel
theorem dX7_takeOver_64 : decode cX7_takeOver 64 = .ok (.putfield 39, 3) := by decide +kernel
theorem dX7_takeOver_67 : decode cX7_takeOver 67 = .ok (.aload_n 0, 1) := by decide +kernel
theorem dX7_takeOver_68 : decode cX7_takeOver 68 = .ok (.aload_n 1, 1) := by decide +kernel
theorem dX7_takeOver_69 : decode cX7_takeOver 69 = .ok (.getfield 42, 3) := by decide +kernel
theorem dX7_takeOver_72 : decode cX7_takeOver 72 = .ok (.putfield 42, 3) := by decide +kernel
theorem dX7_takeOver_75 : decode cX7_takeOver 75 = .ok (.aload_n 0, 1) := by decide +kernel
theorem dX7_takeOver_76 : decode cX7_takeOver 76 = .ok (.aload_n 1, 1) := by decide +kernel
theorem dX7_takeOver_77 : decode cX7_takeOver 77 = .ok (.getfield 45, 3) := by decide +kernel
theorem dX7_takeOver_80 : decode cX7_takeOver 80 = .ok (.putfield 45, 3) := by decide +kernel
theorem dX7_takeOver_83 : decode cX7_takeOver 83 = .ok (.aload_n 0, 1) := by decide +kernel
theorem dX7_takeOver_84 : decode cX7_takeOver 84 = .ok (.aload_n 1, 1) := by decide +kernel
theorem dX7_takeOver_85 : decode cX7_takeOver 85 = .ok (.getfield 48, 3) := by decide +kernel
theorem dX7_takeOver_88 : decode cX7_takeOver 88 = .ok (.putfield 48, 3) := by decide +kernel
theorem dX7_takeOver_91 : decode cX7_takeOver 91 = .ok (.aload_n 0, 1) := by decide +kernel
theorem dX7_takeOver_92 : decode cX7_takeOver 92 = .ok (.aload_n 1, 1) := by decide +kernel
theorem dX7_takeOver_93 : decode cX7_takeOver 93 = .ok (.getfield 51, 3) := by decide +kernel
theorem dX7_takeOver_96 : decode cX7_takeOver 96 = .ok (.putfield 51, 3) := by decide +kernel
theorem dX7_takeOver_99 : decode cX7_takeOver 99 = .ok (.aload_n 0, 1) := by decide +kernel
theorem dX7_takeOver_100 : decode cX7_takeOver 100 = .ok (.aload_n 1, 1) := by decide +kernel
theorem dX7_takeOver_101 : decode cX7_takeOver 101 = .ok (.getfield 54, 3) := by decide +kernel
theorem dX7_takeOver_104 : decode cX7_takeOver 104 = .ok (.putfield 54, 3) := by decide +kernel
theorem dX7_takeOver_107 : decode cX7_takeOver 107 = .ok (.aload_n 0, 1) := by decide +kernel
theorem dX7_takeOver_108 : decode cX7_takeOver 108 = .ok (.aload_n 1, 1) := by decide +kernel
theorem dX7_takeOver_109 : decode cX7_takeOver 109 = .ok (.getfield 57, 3) := by decide +kernel
theorem dX7_takeOver_112 : decode cX7_takeOver 112 = .ok (.putfield 57, 3) := by decide +kernel
theorem dX7_takeOver_115 : decode cX7_takeOver 115 = .ok (.return_, 1) := by decide +kernel
set_option maxRecDepth 100000 in
theorem sp_X7_takeOver (G : MG) (hG : (g_l G).stackTraces = false) (d : Nat) (hd : 3 ≤ d)   (σ : MsSt) (l0 : Nat) (l1 : Nat) (h0 : ms_kd l0 = 8) (h1 : ms_kd l1 = 8) : MsSpec G mX7_takeOver d 0 0 [.ref l0, .ref l1] σ ms_wv (f_X7_takeOver σ l0 l1) := by
  refine ms_start (by decide +kernel) rfl rfl (Nat.le_of_ble_eq_true rfl) ?_
  show TrO G mX7_takeOver d 0 0 0 0 ms_wv 0 [(0, .ref l0), (1, .ref l1)] [] σ ((f_X5_takeOver σ (ms_rf l0 0) (ms_rf l1 0)).bind fun s1 => ms_nm (ms_si s1 l0 1 (ms_i s1 l1 1)) fun s2 => ms_nm (ms_si s2 l0 2 (ms_i s2 l1 2)) fun s3 => ms_nm (ms_si s3 l0 3 (ms_i s3 l1 3)) fun s4 => ms_nm (ms_si s4 l0 4 (ms_i s4 l1 4)) fun s5 => ms_nm (ms_si s5 l0 5 (ms_i s5 l1 5)) fun s6 => ms_nm (ms_si s6 l0 6 (ms_i s6 l1 6)) fun s7 => ms_nm (ms_si s7 l0 7 (ms_i s7 l1 7)) fun s8 => ms_nm (ms_si s8 l0 8 (ms_i s8 l1 8)) fun s9 => ms_nm (ms_si s9 l0 9 (ms_i s9 l1 9)) fun s10 => ms_nm (ms_si s10 l0 10 (ms_i s10 l1 10)) fun s11 => ms_nm (ms_si s11 l0 11 (ms_i s11 l1 11)) fun s12 => ms_nm (ms_si s12 l0 12 (ms_i s12 l1 12)) fun s13 => (ms_bz (ms_i s13 l1 13)).bind fun v14 => ms_nm (ms_si s13 l0 13 v14) fun s15 => some s15)
  refine tr_aload_n (i := 0) dX7_takeOver_0 rfl ?_
  refine tr_getR 7 h0 fl_X7_14 (by decide +kernel) dX7_takeOver_1 ?_
  refine tr_aload_n (i := 1) dX7_takeOver_4 rfl ?_
  refine tr_getR 7 h1 fl_X7_14 (by decide +kernel) dX7_takeOver_5 ?_
  refine tr_c_wv (ms_cV (rest := []) (al := [.ref (ms_rf l1 0)]) 5 (sp_X5_takeOver G hG (d - 1) (by omega) σ (ms_rf l0 0) (ms_rf l1 0) (rk_7_0 h0) (rk_7_0 h1)) (rk_7_0 h0) (by decide +kernel) kl_X7_74 fv_X5_takeOver dX7_takeOver_8 (show _ = some 1 by decide +kernel) (by omega) (Nat.le_of_ble_eq_true rfl) (by decide) (by decide)) (fun s1 => ?_)
  refine tr_aload_n (i := 0) dX7_takeOver_11 rfl ?_
  refine tr_aload_n (i := 1) dX7_takeOver_12 rfl ?_
  refine tr_getI 7 h1 fl_X7_20 (by decide +kernel) dX7_takeOver_13 ?_
  refine tr_putI 7 h0 fl_X7_20 (by decide +kernel) dX7_takeOver_16 ?_
  refine ms_ltS (fun s2 => ?_)
  refine tr_aload_n (i := 0) dX7_takeOver_19 rfl ?_
  refine tr_aload_n (i := 1) dX7_takeOver_20 rfl ?_
  refine tr_getI 7 h1 fl_X7_24 (by decide +kernel) dX7_takeOver_21 ?_
  refine tr_putI 7 h0 fl_X7_24 (by decide +kernel) dX7_takeOver_24 ?_
  refine ms_ltS (fun s3 => ?_)
  refine tr_aload_n (i := 0) dX7_takeOver_27 rfl ?_
  refine tr_aload_n (i := 1) dX7_takeOver_28 rfl ?_
  refine tr_getI 7 h1 fl_X7_27 (by decide +kernel) dX7_takeOver_29 ?_
  refine tr_putI 7 h0 fl_X7_27 (by decide +kernel) dX7_takeOver_32 ?_
  refine ms_ltS (fun s4 => ?_)
  refine tr_aload_n (i := 0) dX7_takeOver_35 rfl ?_
  refine tr_aload_n (i := 1) dX7_takeOver_36 rfl ?_
  refine tr_getI 7 h1 fl_X7_30 (by decide +kernel) dX7_takeOver_37 ?_
  refine tr_putI 7 h0 fl_X7_30 (by decide +kernel) dX7_takeOver_40 ?_
  refine ms_ltS (fun s5 => ?_)
  refine tr_aload_n (i := 0) dX7_takeOver_43 rfl ?_
  refine tr_aload_n (i := 1) dX7_takeOver_44 rfl ?_
  refine tr_getI 7 h1 fl_X7_33 (by decide +kernel) dX7_takeOver_45 ?_
  refine tr_putI 7 h0 fl_X7_33 (by decide +kernel) dX7_takeOver_48 ?_
  refine ms_ltS (fun s6 => ?_)
  refine tr_aload_n (i := 0) dX7_takeOver_51 rfl ?_
  refine tr_aload_n (i := 1) dX7_takeOver_52 rfl ?_
  refine tr_getI 7 h1 fl_X7_36 (by decide +kernel) dX7_takeOver_53 ?_
  refine tr_putI 7 h0 fl_X7_36 (by decide +kernel) dX7_takeOver_56 ?_
  refine ms_ltS (fun s7 => ?_)
  refine tr_aload_n (i := 0) dX7_takeOver_59 rfl ?_
  refine tr_aload_n (i := 1) dX7_takeOver_60 rfl ?_
  refine tr_getI 7 h1 fl_X7_39 (by decide +kernel) dX7_takeOver_61 ?_
  refine tr_putI 7 h0 fl_X7_39 (by decide +kernel) dX7_takeOver_64 ?_
  refine ms_ltS (fun s8 => ?_)
  refine tr_aload_n (i := 0) dX7_takeOver_67 rfl ?_
  refine tr_aload_n (i := 1) dX7_takeOver_68 rfl ?_
  refine tr_getI 7 h1 fl_X7_42 (by decide +kernel) dX7_takeOver_69 ?_
  refine tr_putI 7 h0 fl_X7_42 (by decide +kernel) dX7_takeOver_72 ?_
  refine ms_ltS (fun s9 => ?_)
  refine tr_aload_n (i := 0) dX7_takeOver_75 rfl ?_
  refine tr_aload_n (i := 1) dX7_takeOver_76 rfl ?_
  refine tr_getI 7 h1 fl_X7_45 (by decide +kernel) dX7_takeOver_77 ?_
  refine tr_putI 7 h0 fl_X7_45 (by decide +kernel) dX7_takeOver_80 ?_
  refine ms_ltS (fun s10 => ?_)
  refine tr_aload_n (i := 0) dX7_takeOver_83 rfl ?_
  refine tr_aload_n (i := 1) dX7_takeOver_84 rfl ?_
  refine tr_getI 7 h1 fl_X7_48 (by decide +kernel) dX7_takeOver_85 ?_
  refine tr_putI 7 h0 fl_X7_48 (by decide +kernel) dX7_takeOver_88 ?_
  refine ms_ltS (fun s11 => ?_)
  refine tr_aload_n (i := 0) dX7_takeOver_91 rfl ?_
  refine tr_aload_n (i := 1) dX7_takeOver_92 rfl ?_
  refine tr_getI 7 h1 fl_X7_51 (by decide +kernel) dX7_takeOver_93 ?_
  refine tr_putI 7 h0 fl_X7_51 (by decide +kernel) dX7_takeOver_96 ?_
  refine ms_ltS (fun s12 => ?_)
  refine tr_aload_n (i := 0) dX7_takeOver_99 rfl ?_
  refine tr_aload_n (i := 1) dX7_takeOver_100 rfl ?_
  refine tr_getI 7 h1 fl_X7_54 (by decide +kernel) dX7_takeOver_101 ?_
  refine tr_putI 7 h0 fl_X7_54 (by decide +kernel) dX7_takeOver_104 ?_
  refine ms_ltS (fun s13 => ?_)
  refine tr_aload_n (i := 0) dX7_takeOver_107 rfl ?_
  refine tr_aload_n (i := 1) dX7_takeOver_108 rfl ?_
  refine tr_getI 7 h1 fl_X7_57 (by decide +kernel) dX7_takeOver_109 ?_
  refine tr_putZ 7 h0 fl_X7_57 (by decide +kernel) dX7_takeOver_112 ?_
  refine ms_ltS (fun s15 => ?_)
  exact tr_vret rfl rfl (by decide) (by decide) dX7_takeOver_115
theorem dX7_begin_0 : decode cX7_begin 0 = .ok (.aload_n 0, 1) := by decide +kernel
theorem dX7_begin_1 : decode cX7_begin 1 = .ok (.iload_n 1, 1) := by decide +kernel
theorem dX7_begin_2 : decode cX7_begin 2 = .ok (.putfield 20, 3) := by decide +kernel
theorem dX7_begin_5 : decode cX7_begin 5 = .ok (.aload_n 0, 1) := by decide +kernel
theorem dX7_begin_6 : decode cX7_begin 6 = .ok (.iload_n 2, 1) := by decide +kernel
theorem dX7_begin_7 : decode cX7_begin 7 = .ok (.putfield 24, 3) := by decide +kernel
theorem dX7_begin_10 : decode cX7_begin 10 = .ok (.aload_n 0, 1) := by decide +kernel
theorem dX7_begin_11 : decode cX7_begin 11 = .ok (.iconst 0, 1) := by decide +kernel
theorem dX7_begin_12 : decode cX7_begin 12 = .ok (.putfield 27, 3) := by decide +kernel
theorem dX7_begin_15 : decode cX7_begin 15 = .ok (.aload_n 0, 1) := by decide +kernel
theorem dX7_begin_16 : decode cX7_begin 16 = .ok (.iconst 0, 1) := by decide +kernel
theorem dX7_begin_17 : decode cX7_begin 17 = .ok (.putfield 30, 3) := by decide +kernel
theorem dX7_begin_20 : decode cX7_begin 20 = .ok (.aload_n 0, 1) := by decide +kernel
theorem dX7_begin_21 : decode cX7_begin 21 = .ok (.iconst (-1), 1) := by decide +kernel
theorem dX7_begin_22 : decode cX7_begin 22 = .ok (.putfield 33, 3) := by decide +kernel
theorem dX7_begin_25 : decode cX7_begin 25 = .ok (.aload_n 0, 1) := by decide +kernel
theorem dX7_begin_26 : decode cX7_begin 26 = .ok (.iconst 0, 1) := by decide +kernel
theorem dX7_begin_27 : decode cX7_begin 27 = .ok (.putfield 36, 3) := by decide +kernel
theorem dX7_begin_30 : decode cX7_begin 30 = .ok (.aload_n 0, 1) := by decide +kernel
theorem dX7_begin_31 : decode cX7_begin 31 = .ok (.iconst 0, 1) := by decide +kernel
theorem dX7_begin_32 : decode cX7_begin 32 = .ok (.putfield 39, 3) := by decide +kernel
theorem dX7_begin_35 : decode cX7_begin 35 = .ok (.aload_n 0, 1) := by decide +kernel
theorem dX7_begin_36 : decode cX7_begin 36 = .ok (.iconst 0, 1) := by decide +kernel
theorem dX7_begin_37 : decode cX7_begin 37 = .ok (.putfield 42, 3) := by decide +kernel
theorem dX7_begin_40 : decode cX7_begin 40 = .ok (.aload_n 0, 1) := by decide +kernel
theorem dX7_begin_41 : decode cX7_begin 41 = .ok (.iconst 0, 1) := by decide +kernel
theorem dX7_begin_42 : decode cX7_begin 42 = .ok (.putfield 45, 3) := by decide +kernel
theorem dX7_begin_45 : decode cX7_begin 45 = .ok (.aload_n 0, 1) := by decide +kernel
theorem dX7_begin_46 : decode cX7_begin 46 = .ok (.iconst 0, 1) := by decide +kernel
theorem dX7_begin_47 : decode cX7_begin 47 = .ok (.putfield 48, 3) := by decide +kernel
theorem dX7_begin_50 : decode cX7_begin 50 = .ok (.aload_n 0, 1) := by decide +kernel
theorem dX7_begin_51 : decode cX7_begin 51 = .ok (.iconst (-1), 1) := by decide +kernel
theorem dX7_begin_52 : decode cX7_begin 52 = .ok (.putfield 51, 3) := by decide +kernel
theorem dX7_begin_55 : decode cX7_begin 55 = .ok (.aload_n 0, 1) := by decide +kernel
theorem dX7_begin_56 : decode cX7_begin 56 = .ok (.iconst (-1), 1) := by decide +kernel
theorem dX7_begin_57 : decode cX7_begin 57 = .ok (.putfield 54, 3) := by decide +kernel
theorem dX7_begin_60 : decode cX7_begin 60 = .ok (.aload_n 0, 1) := by decide +kernel
theorem dX7_begin_61 : decode cX7_begin 61 = .ok (.iconst 0, 1) := by decide +kernel
theorem dX7_begin_62 : decode cX7_begin 62 = .ok (.putfield 57, 3) := by decide +kernel
theorem dX7_begin_65 : decode cX7_begin 65 = .ok (.aload_n 0, 1) := by decide +kernel
theorem dX7_begin_66 : decode cX7_begin 66 = .ok (.getfield 14, 3) := by decide +kernel
theorem dX7_begin_69 : decode cX7_begin 69 = .ok (.invokevirtual 61, 3) := by decide +kernel
theorem dX7_begin_72 : decode cX7_begin 72 = .ok (.return_, 1) := by decide +kernel
set_option maxRecDepth 100000 in
theorem sp_X7_begin (G : MG) (hG : (g_l G).stackTraces = false) (d : Nat) (hd : 1 ≤ d)   (σ : MsSt) (l0 : Nat) (l1 : Int32) (l2 : Int32) (h0 : ms_kd l0 = 8) : MsSpec G mX7_begin d 0 0 [.ref l0, .int l1, .int l2] σ ms_wv (f_X7_begin σ l0 l1 l2) := by
  refine ms_start (by decide +kernel) rfl rfl (Nat.le_of_ble_eq_true rfl) ?_
  show TrO G mX7_begin d 0 0 0 0 ms_wv 0 [(0, .ref l0), (1, .int l1), (2, .int l2)] [] σ (ms_nm (ms_si σ l0 1 l1) fun s1 => ms_nm (ms_si s1 l0 2 l2) fun s2 => ms_nm (ms_si s2 l0 3 0) fun s3 => ms_nm (ms_si s3 l0 4 0) fun s4 => ms_nm (ms_si s4 l0 5 (-1)) fun s5 => ms_nm (ms_si s5 l0 6 0) fun s6 => ms_nm (ms_si s6 l0 7 0) fun s7 => ms_nm (ms_si s7 l0 8 0) fun s8 => ms_nm (ms_si s8 l0 9 0) fun s9 => ms_nm (ms_si s9 l0 10 0) fun s10 => ms_nm (ms_si s10 l0 11 (-1)) fun s11 => ms_nm (ms_si s11 l0 12 (-1)) fun s12 => ms_nm (ms_si s12 l0 13 0) fun s13 => (f_X5_clear s13 (ms_rf l0 0)).bind fun s14 => some s14)
  refine tr_aload_n (i := 0) dX7_begin_0 rfl ?_
  refine tr_iload_n (i := 1) dX7_begin_1 rfl ?_
  refine tr_putI 7 h0 fl_X7_20 (by decide +kernel) dX7_begin_2 ?_
  refine ms_ltS (fun s1 => ?_)
  refine tr_aload_n (i := 0) dX7_begin_5 rfl ?_
  refine tr_iload_n (i := 2) dX7_begin_6 rfl ?_
  refine tr_putI 7 h0 fl_X7_24 (by decide +kernel) dX7_begin_7 ?_
  refine ms_ltS (fun s2 => ?_)
  refine tr_aload_n (i := 0) dX7_begin_10 rfl ?_
  refine tr_iconst (v := 0) dX7_begin_11 (by decide +kernel) ?_
  refine tr_putI 7 h0 fl_X7_27 (by decide +kernel) dX7_begin_12 ?_
  refine ms_ltS (fun s3 => ?_)
  refine tr_aload_n (i := 0) dX7_begin_15 rfl ?_
  refine tr_iconst (v := 0) dX7_begin_16 (by decide +kernel) ?_
  refine tr_putI 7 h0 fl_X7_30 (by decide +kernel) dX7_begin_17 ?_
  refine ms_ltS (fun s4 => ?_)
  refine tr_aload_n (i := 0) dX7_begin_20 rfl ?_
  refine tr_iconst (v := (-1)) dX7_begin_21 (by decide +kernel) ?_
  refine tr_putI 7 h0 fl_X7_33 (by decide +kernel) dX7_begin_22 ?_
  refine ms_ltS (fun s5 => ?_)
  refine tr_aload_n (i := 0) dX7_begin_25 rfl ?_
  refine tr_iconst (v := 0) dX7_begin_26 (by decide +kernel) ?_
  refine tr_putI 7 h0 fl_X7_36 (by decide +kernel) dX7_begin_27 ?_
  refine ms_ltS (fun s6 => ?_)
  refine tr_aload_n (i := 0) dX7_begin_30 rfl ?_
  refine tr_iconst (v := 0) dX7_begin_31 (by decide +kernel) ?_
  refine tr_putI 7 h0 fl_X7_39 (by decide +kernel) dX7_begin_32 ?_
  refine ms_ltS (fun s7 => ?_)
  refine tr_aload_n (i := 0) dX7_begin_35 rfl ?_
  refine tr_iconst (v := 0) dX7_begin_36 (by decide +kernel) ?_
  refine tr_putI 7 h0 fl_X7_42 (by decide +kernel) dX7_begin_37 ?_
  refine ms_ltS (fun s8 => ?_)
  refine tr_aload_n (i := 0) dX7_begin_40 rfl ?_
  refine tr_iconst (v := 0) dX7_begin_41 (by decide +kernel) ?_
  refine tr_putI 7 h0 fl_X7_45 (by decide +kernel) dX7_begin_42 ?_
  refine ms_ltS (fun s9 => ?_)
  refine tr_aload_n (i := 0) dX7_begin_45 rfl ?_
  refine tr_iconst (v := 0) dX7_begin_46 (by decide +kernel) ?_
  refine tr_putI 7 h0 fl_X7_48 (by decide +kernel) dX7_begin_47 ?_
  refine ms_ltS (fun s10 => ?_)
  refine tr_aload_n (i := 0) dX7_begin_50 rfl ?_
  refine tr_iconst (v := (-1)) dX7_begin_51 (by decide +kernel) ?_
  refine tr_putI 7 h0 fl_X7_51 (by decide +kernel) dX7_begin_52 ?_
  refine ms_ltS (fun s11 => ?_)
  refine tr_aload_n (i := 0) dX7_begin_55 rfl ?_
  refine tr_iconst (v := (-1)) dX7_begin_56 (by decide +kernel) ?_
  refine tr_putI 7 h0 fl_X7_54 (by decide +kernel) dX7_begin_57 ?_
  refine ms_ltS (fun s12 => ?_)
  refine tr_aload_n (i := 0) dX7_begin_60 rfl ?_
  refine tr_iconst (v := 0) dX7_begin_61 (by decide +kernel) ?_
  refine tr_putB 7 h0 fl_X7_57 (by decide +kernel) (by decide) dX7_begin_62 ?_
  refine ms_ltS (fun s13 => ?_)
  refine tr_aload_n (i := 0) dX7_begin_65 rfl ?_
  refine tr_getR 7 h0 fl_X7_14 (by decide +kernel) dX7_begin_66 ?_
  refine tr_c_wv (ms_cV (rest := []) (al := []) 5 (sp_X5_clear G hG (d - 1) (by omega) s13 (ms_rf l0 0) (rk_7_0 h0)) (rk_7_0 h0) (by decide +kernel) kl_X7_61 fv_X5_clear dX7_begin_69 (show _ = some 0 by decide +kernel) (by omega) (Nat.le_of_ble_eq_true rfl) (by decide) (by decide)) (fun s14 => ?_)
  exact tr_vret rfl rfl (by decide) (by decide) dX7_begin_72
theorem dX7_addPart_0 : decode cX7_addPart 0 = .ok (.aload_n 0, 1) := by decide +kernel
theorem dX7_addPart_1 : decode cX7_addPart 1 = .ok (.getfield 14, 3) := by decide +kernel
theorem dX7_addPart_4 : decode cX7_addPart 4 = .ok (.iload_n 1, 1) := by decide +kernel
theorem dX7_addPart_5 : decode cX7_addPart 5 = .ok (.invokevirtual 64, 3) := by decide +kernel
theorem dX7_addPart_8 : decode cX7_addPart 8 = .ok (.aload_n 0, 1) := by decide +kernel
theorem dX7_addPart_9 : decode cX7_addPart 9 = .ok (.aload_n 0, 1) := by decide +kernel
theorem dX7_addPart_10 : decode cX7_addPart 10 = .ok (.getfield 14, 3) := by decide +kernel
theorem dX7_addPart_13 : decode cX7_addPart 13 = .ok (.getfield 67, 3) := by decide +kernel
theorem dX7_addPart_16 : decode cX7_addPart 16 = .ok (.putfield 27, 3) := by decide +kernel
theorem dX7_addPart_19 : decode cX7_addPart 19 = .ok (.return_, 1) := by decide +kernel
set_option maxRecDepth 100000 in
theorem sp_X7_addPart (G : MG) (hG : (g_l G).stackTraces = false) (d : Nat) (hd : 1 ≤ d)   (σ : MsSt) (l0 : Nat) (l1 : Int32) (h0 : ms_kd l0 = 8) : MsSpec G mX7_addPart d 0 0 [.ref l0, .int l1] σ ms_wv (f_X7_addPart σ l0 l1) := by
  refine ms_start (by decide +kernel) rfl rfl (Nat.le_of_ble_eq_true rfl) ?_
  show TrO G mX7_addPart d 0 0 0 0 ms_wv 0 [(0, .ref l0), (1, .int l1)] [] σ ((f_X5_add σ (ms_rf l0 0) l1).bind fun s1 => ms_nm (ms_si s1 l0 3 (ms_i s1 (ms_rf l0 0) 1)) fun s2 => some s2)
  refine tr_aload_n (i := 0) dX7_addPart_0 rfl ?_
  refine tr_getR 7 h0 fl_X7_14 (by decide +kernel) dX7_addPart_1 ?_
  refine tr_iload_n (i := 1) dX7_addPart_4 rfl ?_
  refine tr_c_wv (ms_cV (rest := []) (al := [.int l1]) 5 (sp_X5_add G hG (d - 1) (by omega) σ (ms_rf l0 0) l1 (rk_7_0 h0)) (rk_7_0 h0) (by decide +kernel) kl_X7_64 fv_X5_add dX7_addPart_5 (show _ = some 1 by decide +kernel) (by omega) (Nat.le_of_ble_eq_true rfl) (by decide) (by decide)) (fun s1 => ?_)
  refine tr_aload_n (i := 0) dX7_addPart_8 rfl ?_
  refine tr_aload_n (i := 0) dX7_addPart_9 rfl ?_
  refine tr_getR 7 h0 fl_X7_14 (by decide +kernel) dX7_addPart_10 ?_
  refine tr_getI 5 (rk_7_0 h0) fl_X7_67 (by decide +kernel) dX7_addPart_13 ?_
  refine tr_putI 7 h0 fl_X7_27 (by decide +kernel) dX7_addPart_16 ?_
  refine ms_ltS (fun s2 => ?_)
  exact tr_vret rfl rfl (by decide) (by decide) dX7_addPart_19
theorem dX7_part_0 : decode cX7_part 0 = .ok (.aload_n 0, 1) := by decide +kernel
theorem dX7_part_1 : decode cX7_part 1 = .ok (.getfield 14, 3) := by decide +kernel
theorem dX7_part_4 : decode cX7_part 4 = .ok (.iload_n 1, 1) := by decide +kernel
theorem dX7_part_5 : decode cX7_part 5 = .ok (.invokevirtual 70, 3) := by decide +kernel
theorem dX7_part_8 : decode cX7_part 8 = .ok (.ireturn, 1) := by decide +kernel
set_option maxRecDepth 100000 in
theorem sp_X7_part (G : MG) (hG : (g_l G).stackTraces = false) (d : Nat) (hd : 1 ≤ d)   (σ : MsSt) (l0 : Nat) (l1 : Int32) (h0 : ms_kd l0 = 8) : MsSpec G mX7_part d 0 0 [.ref l0, .int l1] σ (ms_ki σ) (f_X7_part σ l0 l1) := by
  refine ms_start (by decide +kernel) rfl rfl (Nat.le_of_ble_eq_true rfl) ?_
  show TrO G mX7_part d 0 0 0 0 (ms_ki σ) 0 [(0, .ref l0), (1, .int l1)] [] σ ((f_X5_get σ (ms_rf l0 0) l1).bind fun v1 => some v1)
  refine tr_aload_n (i := 0) dX7_part_0 rfl ?_
  refine tr_getR 7 h0 fl_X7_14 (by decide +kernel) dX7_part_1 ?_
  refine tr_iload_n (i := 1) dX7_part_4 rfl ?_
  refine tr_c_i (ms_cV (rest := []) (al := [.int l1]) 5 (sp_X5_get G hG (d - 1) (by omega) σ (ms_rf l0 0) l1 (rk_7_0 h0)) (rk_7_0 h0) (by decide +kernel) kl_X7_70 fv_X5_get dX7_part_5 (show _ = some 1 by decide +kernel) (by omega) (Nat.le_of_ble_eq_true rfl) (by decide) (by decide)) (fun v1 => ?_)
  exact tr_iret rfl rfl (by decide) (by decide) dX7_part_8
theorem dX7_letterAt_0 : decode cX7_letterAt 0 = .ok (.iload_n 1, 1) := by decide +kernel
theorem dX7_letterAt_1 : decode cX7_letterAt 1 = .ok (.ifCond .lt 8, 3) := by decide +kernel
theorem dX7_letterAt_4 : decode cX7_letterAt 4 = .ok (.iload_n 1, 1) := by decide +kernel
theorem dX7_letterAt_5 : decode cX7_letterAt 5 = .ok (.iconst 4, 1) := by decide +kernel
theorem dX7_letterAt_6 : decode cX7_letterAt 6 = .ok (.if_icmp .lt 5, 3) := by decide +kernel
theorem dX7_letterAt_9 : decode cX7_letterAt 9 = .ok (.iconst (-1), 1) := by decide +kernel
theorem dX7_letterAt_10 : decode cX7_letterAt 10 = .ok (.ireturn, 1) := by decide +kernel
theorem dX7_letterAt_11 : decode cX7_letterAt 11 = .ok (.aload_n 0, 1) := by decide +kernel
theorem dX7_letterAt_12 : decode cX7_letterAt 12 = .ok (.getfield 24, 3) := by decide +kernel
theorem dX7_letterAt_15 : decode cX7_letterAt 15 = .ok (.bipush 8, 2) := by decide +kernel
theorem dX7_letterAt_17 : decode cX7_letterAt 17 = .ok (.iload_n 1, 1) := by decide +kernel
theorem dX7_letterAt_18 : decode cX7_letterAt 18 = .ok (.imul, 1) := by decide +kernel
theorem dX7_letterAt_19 : decode cX7_letterAt 19 = .ok (.ishr, 1) := by decide +kernel
theorem dX7_letterAt_20 : decode cX7_letterAt 20 = .ok (.sipush 255, 3) := by decide +kernel
theorem dX7_letterAt_23 : decode cX7_letterAt 23 = .ok (.iand, 1) := by decide +kernel
theorem dX7_letterAt_24 : decode cX7_letterAt 24 = .ok (.istore_n 2, 1) := by decide +kernel
theorem dX7_letterAt_25 : decode cX7_letterAt 25 = .ok (.iload_n 2, 1) := by decide +kernel
theorem dX7_letterAt_26 : decode cX7_letterAt 26 = .ok (.ifCond .ne 7, 3) := by decide +kernel
theorem dX7_letterAt_29 : decode cX7_letterAt 29 = .ok (.iconst (-1), 1) := by decide +kernel
theorem dX7_letterAt_30 : decode cX7_letterAt 30 = .ok (.goto 4, 3) := by decide +kernel
theorem dX7_letterAt_33 : decode cX7_letterAt 33 = .ok (.iload_n 2, 1) := by decide +kernel
theorem dX7_letterAt_34 : decode cX7_letterAt 34 = .ok (.ireturn, 1) := by decide +kernel
set_option maxRecDepth 100000 in
theorem sp_X7_letterAt (G : MG) (hG : (g_l G).stackTraces = false) (d : Nat) (hd : 0 ≤ d)   (σ : MsSt) (l0 : Nat) (l1 : Int32) (h0 : ms_kd l0 = 8) : MsSpec G mX7_letterAt d 0 0 [.ref l0, .int l1] σ (ms_ki σ) (f_X7_letterAt σ l0 l1) := by
  refine ms_start (by decide +kernel) rfl rfl (Nat.le_of_ble_eq_true rfl) ?_
  show TrO G mX7_letterAt d 0 0 0 0 (ms_ki σ) 0 [(0, .ref l0), (1, .int l1)] [] σ (if l1 < 0 then some (-1) else if l1 < 4 then if (((ms_i σ l0 2) >>> ((8 * l1) &&& 31)) &&& 255) = 0 then some (-1) else some (((ms_i σ l0 2) >>> ((8 * l1) &&& 31)) &&& 255) else some (-1))
  refine tr_iload_n (i := 1) dX7_letterAt_0 rfl ?_
  refine tr_iflt (o := none) (tgt := 9) dX7_letterAt_1 (by decide) ?_ ?_
  · refine tr_iconst (v := (-1)) dX7_letterAt_9 (by decide +kernel) ?_
    exact tr_iret rfl rfl (by decide) (by decide) dX7_letterAt_10
  · refine tr_iload_n (i := 1) dX7_letterAt_4 rfl ?_
    refine tr_iconst (v := 4) dX7_letterAt_5 (by decide +kernel) ?_
    refine tr_iclt (o := none) (tgt := 11) dX7_letterAt_6 (by decide) ?_ ?_
    · refine tr_aload_n (i := 0) dX7_letterAt_11 rfl ?_
      refine tr_getI 7 h0 fl_X7_24 (by decide +kernel) dX7_letterAt_12 ?_
      refine tr_bipush (v := 8) dX7_letterAt_15 (by decide +kernel) ?_
      refine tr_iload_n (i := 1) dX7_letterAt_17 rfl ?_
      refine tr_imul dX7_letterAt_18 ?_
      refine tr_ishr dX7_letterAt_19 ?_
      refine tr_sipush (v := 255) dX7_letterAt_20 (by decide +kernel) ?_
      refine tr_iand dX7_letterAt_23 ?_
      refine tr_istore_n (lv' := [(2, .int (((ms_i σ l0 2) >>> ((8 * l1) &&& 31)) &&& 255))]) [0] dX7_letterAt_24 (by decide) rfl ?_
      refine tr_iload_n (i := 0) dX7_letterAt_25 rfl ?_
      refine tr_ifne (o := none) (tgt := 33) dX7_letterAt_26 (by decide) ?_ ?_
      · refine tr_iload_n (i := 0) dX7_letterAt_33 rfl ?_
        exact tr_iret rfl rfl (by decide) (by decide) dX7_letterAt_34
      · refine tr_iconst (v := (-1)) dX7_letterAt_29 (by decide +kernel) ?_
        refine tr_goto (tgt := 34) dX7_letterAt_30 (by decide) ?_
        exact tr_iret rfl rfl (by decide) (by decide) dX7_letterAt_34
    · refine tr_iconst (v := (-1)) dX7_letterAt_9 (by decide +kernel) ?_
      exact tr_iret rfl rfl (by decide) (by decide) dX7_letterAt_10
theorem dX7_number_0 : decode cX7_number 0 = .ok (.iload_n 1, 1) := by decide +kernel
theorem dX7_number_1 : decode cX7_number 1 = .ok (.tableswitch 137 0 5 #[39, 44, 49, 54, 74, 94], 39) := by decide +kernel
theorem dX7_number_40 : decode cX7_number 40 = .ok (.aload_n 0, 1) := by decide +kernel
theorem dX7_number_41 : decode cX7_number 41 = .ok (.getfield 20, 3) := by decide +kernel
theorem dX7_number_44 : decode cX7_number 44 = .ok (.ireturn, 1) := by decide +kernel
theorem dX7_number_45 : decode cX7_number 45 = .ok (.aload_n 0, 1) := by decide +kernel
theorem dX7_number_46 : decode cX7_number 46 = .ok (.getfield 30, 3) := by decide +kernel
theorem dX7_number_49 : decode cX7_number 49 = .ok (.ireturn, 1) := by decide +kernel
theorem dX7_number_50 : decode cX7_number 50 = .ok (.aload_n 0, 1) := by decide +kernel
theorem dX7_number_51 : decode cX7_number 51 = .ok (.getfield 27, 3) := by decide +kernel
theorem dX7_number_54 : decode cX7_number 54 = .ok (.ireturn, 1) := by decide +kernel
theorem dX7_number_55 : decode cX7_number 55 = .ok (.aload_n 0, 1) := by decide +kernel
theorem dX7_number_56 : decode cX7_number 56 = .ok (.getfield 20, 3) := by decide +kernel
theorem dX7_number_59 : decode cX7_number 59 = .ok (.iconst 2, 1) := by decide +kernel
theorem dX7_number_60 : decode cX7_number 60 = .ok (.if_icmp .ne 10, 3) := by decide +kernel
theorem dX7_number_63 : decode cX7_number 63 = .ok (.aload_n 0, 1) := by decide +kernel
theorem dX7_number_64 : decode cX7_number 64 = .ok (.getfield 51, 3) := by decide +kernel
theorem dX7_number_67 : decode cX7_number 67 = .ok (.goto 7, 3) := by decide +kernel
theorem dX7_number_70 : decode cX7_number 70 = .ok (.aload_n 0, 1) := by decide +kernel
theorem dX7_number_71 : decode cX7_number 71 = .ok (.getfield 36, 3) := by decide +kernel
theorem dX7_number_74 : decode cX7_number 74 = .ok (.ireturn, 1) := by decide +kernel
theorem dX7_number_75 : decode cX7_number 75 = .ok (.aload_n 0, 1) := by decide +kernel
theorem dX7_number_76 : decode cX7_number 76 = .ok (.getfield 20, 3) := by decide +kernel
theorem dX7_number_79 : decode cX7_number 79 = .ok (.iconst 2, 1) := by decide +kernel
theorem dX7_number_80 : decode cX7_number 80 = .ok (.if_icmp .ne 10, 3) := by decide +kernel
theorem dX7_number_83 : decode cX7_number 83 = .ok (.aload_n 0, 1) := by decide +kernel
theorem dX7_number_84 : decode cX7_number 84 = .ok (.getfield 54, 3) := by decide +kernel
theorem dX7_number_87 : decode cX7_number 87 = .ok (.goto 7, 3) := by decide +kernel
theorem dX7_number_90 : decode cX7_number 90 = .ok (.aload_n 0, 1) := by decide +kernel
theorem dX7_number_91 : decode cX7_number 91 = .ok (.getfield 39, 3) := by decide +kernel
theorem dX7_number_94 : decode cX7_number 94 = .ok (.ireturn, 1) := by decide +kernel
theorem dX7_number_95 : decode cX7_number 95 = .ok (.aload_n 0, 1) := by decide +kernel
theorem dX7_number_96 : decode cX7_number 96 = .ok (.getfield 20, 3) := by decide +kernel
theorem dX7_number_99 : decode cX7_number 99 = .ok (.iconst 2, 1) := by decide +kernel
theorem dX7_number_100 : decode cX7_number 100 = .ok (.if_icmp .ne 18, 3) := by decide +kernel
theorem dX7_number_103 : decode cX7_number 103 = .ok (.aload_n 0, 1) := by decide +kernel
theorem dX7_number_104 : decode cX7_number 104 = .ok (.getfield 57, 3) := by decide +kernel
theorem dX7_number_107 : decode cX7_number 107 = .ok (.ifCond .eq 7, 3) := by decide +kernel
theorem dX7_number_110 : decode cX7_number 110 = .ok (.iconst 1, 1) := by decide +kernel
theorem dX7_number_111 : decode cX7_number 111 = .ok (.goto 26, 3) := by decide +kernel
theorem dX7_number_114 : decode cX7_number 114 = .ok (.iconst 0, 1) := by decide +kernel
theorem dX7_number_115 : decode cX7_number 115 = .ok (.goto 22, 3) := by decide +kernel
theorem dX7_number_118 : decode cX7_number 118 = .ok (.aload_n 0, 1) := by decide +kernel
theorem dX7_number_119 : decode cX7_number 119 = .ok (.getfield 20, 3) := by decide +kernel
theorem dX7_number_122 : decode cX7_number 122 = .ok (.iconst 1, 1) := by decide +kernel
theorem dX7_number_123 : decode cX7_number 123 = .ok (.if_icmp .ne 10, 3) := by decide +kernel
theorem dX7_number_126 : decode cX7_number 126 = .ok (.aload_n 0, 1) := by decide +kernel
theorem dX7_number_127 : decode cX7_number 127 = .ok (.getfield 48, 3) := by decide +kernel
theorem dX7_number_130 : decode cX7_number 130 = .ok (.goto 7, 3) := by decide +kernel
theorem dX7_number_133 : decode cX7_number 133 = .ok (.aload_n 0, 1) := by decide +kernel
theorem dX7_number_134 : decode cX7_number 134 = .ok (.getfield 42, 3) := by decide +kernel
theorem dX7_number_137 : decode cX7_number 137 = .ok (.ireturn, 1) := by decide +kernel
theorem dX7_number_138 : decode cX7_number 138 = .ok (.aload_n 0, 1) := by decide +kernel
theorem dX7_number_139 : decode cX7_number 139 = .ok (.getfield 20, 3) := by decide +kernel
theorem dX7_number_142 : decode cX7_number 142 = .ok (.iconst 1, 1) := by decide +kernel
theorem dX7_number_143 : decode cX7_number 143 = .ok (.if_icmp .ne 10, 3) := by decide +kernel
theorem dX7_number_146 : decode cX7_number 146 = .ok (.aload_n 0, 1) := by decide +kernel
theorem dX7_number_147 : decode cX7_number 147 = .ok (.getfield 33, 3) := by decide +kernel
theorem dX7_number_150 : decode cX7_number 150 = .ok (.goto 7, 3) := by decide +kernel
theorem dX7_number_153 : decode cX7_number 153 = .ok (.aload_n 0, 1) := by decide +kernel
theorem dX7_number_154 : decode cX7_number 154 = .ok (.getfield 45, 3) := by decide +kernel
theorem dX7_number_157 : decode cX7_number 157 = .ok (.ireturn, 1) := by decide +kernel
set_option maxRecDepth 100000 in
theorem sp_X7_number (G : MG) (hG : (g_l G).stackTraces = false) (d : Nat) (hd : 0 ≤ d)   (σ : MsSt) (l0 : Nat) (l1 : Int32) (h0 : ms_kd l0 = 8) : MsSpec G mX7_number d 0 0 [.ref l0, .int l1] σ (ms_ki σ) (f_X7_number σ l0 l1) := by
  refine ms_start (by decide +kernel) rfl rfl (Nat.le_of_ble_eq_true rfl) ?_
  show TrO G mX7_number d 0 0 0 0 (ms_ki σ) 0 [(0, .ref l0), (1, .int l1)] [] σ (if l1 = 0 then some (ms_i σ l0 1) else if l1 = 1 then some (ms_i σ l0 4) else if l1 = 2 then some (ms_i σ l0 3) else if l1 = 3 then if (ms_i σ l0 1) = 2 then some (ms_i σ l0 11) else some (ms_i σ l0 6) else if l1 = 4 then if (ms_i σ l0 1) = 2 then some (ms_i σ l0 12) else some (ms_i σ l0 7) else if l1 = 5 then if (ms_i σ l0 1) = 2 then if (ms_i σ l0 13) = 0 then some 0 else some 1 else if (ms_i σ l0 1) = 1 then some (ms_i σ l0 10) else some (ms_i σ l0 8) else if (ms_i σ l0 1) = 1 then some (ms_i σ l0 5) else some (ms_i σ l0 9))
  refine tr_iload_n (i := 1) dX7_number_0 rfl ?_
  refine tr_tsIn (tgt := 40) (off := 39) 0 dX7_number_1 (by decide +kernel) (by decide +kernel) (by decide +kernel) (by decide) ?_ (fun n0 => ?_)
  · refine tr_aload_n (i := 0) dX7_number_40 rfl ?_
    refine tr_getI 7 h0 fl_X7_20 (by decide +kernel) dX7_number_41 ?_
    exact tr_iret rfl rfl (by decide) (by decide) dX7_number_44
  refine tr_tsIn (tgt := 45) (off := 44) 1 dX7_number_1 (by decide +kernel) (by decide +kernel) (by decide +kernel) (by decide) ?_ (fun n1 => ?_)
  · refine tr_aload_n (i := 0) dX7_number_45 rfl ?_
    refine tr_getI 7 h0 fl_X7_30 (by decide +kernel) dX7_number_46 ?_
    exact tr_iret rfl rfl (by decide) (by decide) dX7_number_49
  refine tr_tsIn (tgt := 50) (off := 49) 2 dX7_number_1 (by decide +kernel) (by decide +kernel) (by decide +kernel) (by decide) ?_ (fun n2 => ?_)
  · refine tr_aload_n (i := 0) dX7_number_50 rfl ?_
    refine tr_getI 7 h0 fl_X7_27 (by decide +kernel) dX7_number_51 ?_
    exact tr_iret rfl rfl (by decide) (by decide) dX7_number_54
  refine tr_tsIn (tgt := 55) (off := 54) 3 dX7_number_1 (by decide +kernel) (by decide +kernel) (by decide +kernel) (by decide) ?_ (fun n3 => ?_)
  · refine tr_aload_n (i := 0) dX7_number_55 rfl ?_
    refine tr_getI 7 h0 fl_X7_20 (by decide +kernel) dX7_number_56 ?_
    refine tr_iconst (v := 2) dX7_number_59 (by decide +kernel) ?_
    refine tr_icne (o := none) (tgt := 70) dX7_number_60 (by decide) ?_ ?_
    · refine tr_aload_n (i := 0) dX7_number_70 rfl ?_
      refine tr_getI 7 h0 fl_X7_36 (by decide +kernel) dX7_number_71 ?_
      exact tr_iret rfl rfl (by decide) (by decide) dX7_number_74
    · refine tr_aload_n (i := 0) dX7_number_63 rfl ?_
      refine tr_getI 7 h0 fl_X7_51 (by decide +kernel) dX7_number_64 ?_
      refine tr_goto (tgt := 74) dX7_number_67 (by decide) ?_
      exact tr_iret rfl rfl (by decide) (by decide) dX7_number_74
  refine tr_tsIn (tgt := 75) (off := 74) 4 dX7_number_1 (by decide +kernel) (by decide +kernel) (by decide +kernel) (by decide) ?_ (fun n4 => ?_)
  · refine tr_aload_n (i := 0) dX7_number_75 rfl ?_
    refine tr_getI 7 h0 fl_X7_20 (by decide +kernel) dX7_number_76 ?_
    refine tr_iconst (v := 2) dX7_number_79 (by decide +kernel) ?_
    refine tr_icne (o := none) (tgt := 90) dX7_number_80 (by decide) ?_ ?_
    · refine tr_aload_n (i := 0) dX7_number_90 rfl ?_
      refine tr_getI 7 h0 fl_X7_39 (by decide +kernel) dX7_number_91 ?_
      exact tr_iret rfl rfl (by decide) (by decide) dX7_number_94
    · refine tr_aload_n (i := 0) dX7_number_83 rfl ?_
      refine tr_getI 7 h0 fl_X7_54 (by decide +kernel) dX7_number_84 ?_
      refine tr_goto (tgt := 94) dX7_number_87 (by decide) ?_
      exact tr_iret rfl rfl (by decide) (by decide) dX7_number_94
  refine tr_tsIn (tgt := 95) (off := 94) 5 dX7_number_1 (by decide +kernel) (by decide +kernel) (by decide +kernel) (by decide) ?_ (fun n5 => ?_)
  · refine tr_aload_n (i := 0) dX7_number_95 rfl ?_
    refine tr_getI 7 h0 fl_X7_20 (by decide +kernel) dX7_number_96 ?_
    refine tr_iconst (v := 2) dX7_number_99 (by decide +kernel) ?_
    refine tr_icne (o := none) (tgt := 118) dX7_number_100 (by decide) ?_ ?_
    · refine tr_aload_n (i := 0) dX7_number_118 rfl ?_
      refine tr_getI 7 h0 fl_X7_20 (by decide +kernel) dX7_number_119 ?_
      refine tr_iconst (v := 1) dX7_number_122 (by decide +kernel) ?_
      refine tr_icne (o := none) (tgt := 133) dX7_number_123 (by decide) ?_ ?_
      · refine tr_aload_n (i := 0) dX7_number_133 rfl ?_
        refine tr_getI 7 h0 fl_X7_42 (by decide +kernel) dX7_number_134 ?_
        exact tr_iret rfl rfl (by decide) (by decide) dX7_number_137
      · refine tr_aload_n (i := 0) dX7_number_126 rfl ?_
        refine tr_getI 7 h0 fl_X7_48 (by decide +kernel) dX7_number_127 ?_
        refine tr_goto (tgt := 137) dX7_number_130 (by decide) ?_
        exact tr_iret rfl rfl (by decide) (by decide) dX7_number_137
    · refine tr_aload_n (i := 0) dX7_number_103 rfl ?_
      refine tr_getI 7 h0 fl_X7_57 (by decide +kernel) dX7_number_104 ?_
      refine tr_ifeq (o := none) (tgt := 114) dX7_number_107 (by decide) ?_ ?_
      · refine tr_iconst (v := 0) dX7_number_114 (by decide +kernel) ?_
        refine tr_goto (tgt := 137) dX7_number_115 (by decide) ?_
        exact tr_iret rfl rfl (by decide) (by decide) dX7_number_137
      · refine tr_iconst (v := 1) dX7_number_110 (by decide +kernel) ?_
        refine tr_goto (tgt := 137) dX7_number_111 (by decide) ?_
        exact tr_iret rfl rfl (by decide) (by decide) dX7_number_137
  refine tr_tsOut (tgt := 138) dX7_number_1 ?_ (by decide) ?_
  · have q0 := lv_neT (a := 0) n0 (by decide +kernel); have q1 := lv_neT (a := 1) n1 (by decide +kernel); have q2 := lv_neT (a := 2) n2 (by decide +kernel); have q3 := lv_neT (a := 3) n3 (by decide +kernel); have q4 := lv_neT (a := 4) n4 (by decide +kernel); have q5 := lv_neT (a := 5) n5 (by decide +kernel); omega
  refine tr_aload_n (i := 0) dX7_number_138 rfl ?_
  refine tr_getI 7 h0 fl_X7_20 (by decide +kernel) dX7_number_139 ?_
  refine tr_iconst (v := 1) dX7_number_142 (by decide +kernel) ?_
  refine tr_icne (o := none) (tgt := 153) dX7_number_143 (by decide) ?_ ?_
  · refine tr_aload_n (i := 0) dX7_number_153 rfl ?_
    refine tr_getI 7 h0 fl_X7_45 (by decide +kernel) dX7_number_154 ?_
    exact tr_iret rfl rfl (by decide) (by decide) dX7_number_157
  · refine tr_aload_n (i := 0) dX7_number_146 rfl ?_
    refine tr_getI 7 h0 fl_X7_33 (by decide +kernel) dX7_number_147 ?_
    refine tr_goto (tgt := 157) dX7_number_150 (by decide) ?_
    exact tr_iret rfl rfl (by decide) (by decide) dX7_number_157
