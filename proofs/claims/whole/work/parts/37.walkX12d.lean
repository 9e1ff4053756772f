/-! X12: the bytecode does what the functions say (by program: wip/whole/gen) -/
theorem dX12_compare_0 : decode cX12_compare 0 = .ok (.aload_n 0, 1) := by decide +kernel
theorem dX12_compare_1 : decode cX12_compare 1 = .ok (.iload_n 1, 1) := by decide +kernel
theorem dX12_compare_2 : decode cX12_compare 2 = .ok (.iload_n 2, 1) := by decide +kernel
theorem dX12_compare_3 : decode cX12_compare 3 = .ok (.invokevirtual 296, 3) := by decide +kernel
theorem dX12_compare_6 : decode cX12_compare 6 = .ok (.ifCond .eq 5, 3) := by decide +kernel
theorem dX12_compare_9 : decode cX12_compare 9 = .ok (.iconst 0, 1) := by decide +kernel
theorem dX12_compare_10 : decode cX12_compare 10 = .ok (.ireturn, 1) := by decide +kernel
theorem dX12_compare_11 : decode cX12_compare 11 = .ok (.aload_n 0, 1) := by decide +kernel
theorem dX12_compare_12 : decode cX12_compare 12 = .ok (.iload_n 1, 1) := by decide +kernel
theorem dX12_compare_13 : decode cX12_compare 13 = .ok (.iload_n 2, 1) := by decide +kernel
theorem dX12_compare_14 : decode cX12_compare 14 = .ok (.invokevirtual 299, 3) := by decide +kernel
theorem dX12_compare_17 : decode cX12_compare 17 = .ok (.iconst 0, 1) := by decide +kernel
theorem dX12_compare_18 : decode cX12_compare 18 = .ok (.istore_n 3, 1) := by decide +kernel
theorem dX12_compare_19 : decode cX12_compare 19 = .ok (.iconst 0, 1) := by decide +kernel
theorem dX12_compare_20 : decode cX12_compare 20 = .ok (.istore 4, 2) := by decide +kernel
theorem dX12_compare_22 : decode cX12_compare 22 = .ok (.iload 4, 2) := by decide +kernel
theorem dX12_compare_24 : decode cX12_compare 24 = .ok (.aload_n 0, 1) := by decide +kernel
theorem dX12_compare_25 : decode cX12_compare 25 = .ok (.getfield 132, 3) := by decide +kernel
theorem dX12_compare_28 : decode cX12_compare 28 = .ok (.aload_n 0, 1) := by decide +kernel
theorem dX12_compare_29 : decode cX12_compare 29 = .ok (.getfield 290, 3) := by decide +kernel
theorem dX12_compare_32 : decode cX12_compare 32 = .ok (.invokestatic 207, 3) := by decide +kernel
theorem dX12_compare_35 : decode cX12_compare 35 = .ok (.if_icmp .ge 29, 3) := by decide +kernel
theorem dX12_compare_38 : decode cX12_compare 38 = .ok (.iload_n 3, 1) := by decide +kernel
theorem dX12_compare_39 : decode cX12_compare 39 = .ok (.ifCond .ne 25, 3) := by decide +kernel
theorem dX12_compare_42 : decode cX12_compare 42 = .ok (.aload_n 0, 1) := by decide +kernel
theorem dX12_compare_43 : decode cX12_compare 43 = .ok (.getfield 31, 3) := by decide +kernel
theorem dX12_compare_46 : decode cX12_compare 46 = .ok (.iload 4, 2) := by decide +kernel
theorem dX12_compare_48 : decode cX12_compare 48 = .ok (.iaload, 1) := by decide +kernel
theorem dX12_compare_49 : decode cX12_compare 49 = .ok (.aload_n 0, 1) := by decide +kernel
theorem dX12_compare_50 : decode cX12_compare 50 = .ok (.getfield 53, 3) := by decide +kernel
theorem dX12_compare_53 : decode cX12_compare 53 = .ok (.iload 4, 2) := by decide +kernel
theorem dX12_compare_55 : decode cX12_compare 55 = .ok (.iaload, 1) := by decide +kernel
theorem dX12_compare_56 : decode cX12_compare 56 = .ok (.isub, 1) := by decide +kernel
theorem dX12_compare_57 : decode cX12_compare 57 = .ok (.istore_n 3, 1) := by decide +kernel
theorem dX12_compare_58 : decode cX12_compare 58 = .ok (.iinc 4 1, 3) := by decide +kernel
theorem dX12_compare_61 : decode cX12_compare 61 = .ok (.goto (-39), 3) := by decide +kernel
theorem dX12_compare_64 : decode cX12_compare 64 = .ok (.iload_n 3, 1) := by decide +kernel
theorem dX12_compare_65 : decode cX12_compare 65 = .ok (.ifCond .ne 15, 3) := by decide +kernel
theorem dX12_compare_68 : decode cX12_compare 68 = .ok (.aload_n 0, 1) := by decide +kernel
theorem dX12_compare_69 : decode cX12_compare 69 = .ok (.getfield 132, 3) := by decide +kernel
theorem dX12_compare_72 : decode cX12_compare 72 = .ok (.aload_n 0, 1) := by decide +kernel
theorem dX12_compare_73 : decode cX12_compare 73 = .ok (.getfield 290, 3) := by decide +kernel
theorem dX12_compare_76 : decode cX12_compare 76 = .ok (.isub, 1) := by decide +kernel
theorem dX12_compare_77 : decode cX12_compare 77 = .ok (.goto 4, 3) := by decide +kernel
theorem dX12_compare_80 : decode cX12_compare 80 = .ok (.iload_n 3, 1) := by decide +kernel
theorem dX12_compare_81 : decode cX12_compare 81 = .ok (.istore_n 3, 1) := by decide +kernel
theorem dX12_compare_82 : decode cX12_compare 82 = .ok (.iload_n 3, 1) := by decide +kernel
theorem dX12_compare_83 : decode cX12_compare 83 = .ok (.ifCond .ge 7, 3) := by decide +kernel
theorem dX12_compare_86 : decode cX12_compare 86 = .ok (.iconst (-1), 1) := by decide +kernel
theorem dX12_compare_87 : decode cX12_compare 87 = .ok (.goto 12, 3) := by decide +kernel
theorem dX12_compare_90 : decode cX12_compare 90 = .ok (.iload_n 3, 1) := by decide +kernel
theorem dX12_compare_91 : decode cX12_compare 91 = .ok (.ifCond .le 7, 3) := by decide +kernel
theorem dX12_compare_94 : decode cX12_compare 94 = .ok (.iconst 1, 1) := by decide +kernel
theorem dX12_compare_95 : decode cX12_compare 95 = .ok (.goto 4, 3) := by decide +kernel
theorem dX12_compare_98 : decode cX12_compare 98 = .ok (.iconst 0, 1) := by decide +kernel
theorem dX12_compare_99 : decode cX12_compare 99 = .ok (.ireturn, 1) := by decide +kernel
set_option maxRecDepth 100000 in
theorem t_X12_compare_81 (G : MG) (hG : (g_l G).stackTraces = false) (d : Nat) (hd : 8 ≤ d)    (σ : MsSt) (t0 : Int32) : TrO G mX12_compare d 0 0 0 0 ms_wi 81 [] [.int t0] σ (f_X12_compare_81 σ t0) := by
  show TrO G mX12_compare d 0 0 0 0 ms_wi 81 [] [.int t0] σ (if t0 < 0 then some ((-1), σ) else if 0 < t0 then some (1, σ) else some (0, σ))
  refine tr_istore_n (lv' := [(3, .int t0)]) [0] dX12_compare_81 (by decide) rfl ?_
  refine tr_iload_n (i := 0) dX12_compare_82 rfl ?_
  refine tr_ifge (o := none) (tgt := 90) dX12_compare_83 (by decide) ?_ ?_
  · refine tr_iload_n (i := 0) dX12_compare_90 rfl ?_
    refine tr_ifle (o := none) (tgt := 98) dX12_compare_91 (by decide) ?_ ?_
    · refine tr_iconst (v := 0) dX12_compare_98 (by decide +kernel) ?_
      exact tr_iret rfl rfl (by decide) (by decide) dX12_compare_99
    · refine tr_iconst (v := 1) dX12_compare_94 (by decide +kernel) ?_
      refine tr_goto (tgt := 99) dX12_compare_95 (by decide) ?_
      exact tr_iret rfl rfl (by decide) (by decide) dX12_compare_99
  · refine tr_iconst (v := (-1)) dX12_compare_86 (by decide +kernel) ?_
    refine tr_goto (tgt := 99) dX12_compare_87 (by decide) ?_
    exact tr_iret rfl rfl (by decide) (by decide) dX12_compare_99
set_option maxRecDepth 100000 in
theorem t_X12_compare_64 (G : MG) (hG : (g_l G).stackTraces = false) (d : Nat) (hd : 8 ≤ d)    (σ : MsSt) (l0 : Nat) (l3 : Int32) (h0 : ms_kd l0 = 13) : TrO G mX12_compare d 0 0 0 0 ms_wi 64 [(0, .ref l0), (3, .int l3)] [] σ (f_X12_compare_64 σ l0 l3) := by
  show TrO G mX12_compare d 0 0 0 0 ms_wi 64 [(0, .ref l0), (3, .int l3)] [] σ (if l3 = 0 then f_X12_compare_81 σ ((ms_i σ l0 11) - (ms_i σ l0 22)) else f_X12_compare_81 σ l3)
  refine tr_iload_n (i := 1) dX12_compare_64 rfl ?_
  refine tr_ifne (o := none) (tgt := 80) dX12_compare_65 (by decide) ?_ ?_
  · refine tr_iload_n (i := 1) dX12_compare_80 rfl ?_
    refine tr_weak [] (lv' := []) rfl ?_
    exact t_X12_compare_81 G hG d hd σ l3
  · refine tr_aload_n (i := 0) dX12_compare_68 rfl ?_
    refine tr_getI 12 h0 fl_X12_132 (by decide +kernel) dX12_compare_69 ?_
    refine tr_aload_n (i := 0) dX12_compare_72 rfl ?_
    refine tr_getI 12 h0 fl_X12_290 (by decide +kernel) dX12_compare_73 ?_
    refine tr_isub dX12_compare_76 ?_
    refine tr_goto (tgt := 81) dX12_compare_77 (by decide) ?_
    refine tr_weak [] (lv' := []) rfl ?_
    exact t_X12_compare_81 G hG d hd σ ((ms_i σ l0 11) - (ms_i σ l0 22))
set_option maxRecDepth 100000 in
theorem t_X12_compare_22 (G : MG) (hG : (g_l G).stackTraces = false) (d : Nat) (hd : 8 ≤ d)    : ∀ (n : Nat) (σ : MsSt) (l0 : Nat) (l3 : Int32) (l4 : Int32) (h0 : ms_kd l0 = 13), TrO G mX12_compare d 0 0 0 0 ms_wi 22 [(0, .ref l0), (3, .int l3), (4, .int l4)] [] σ (f_X12_compare_22 n σ l0 l3 l4) := by
  intro n
  induction n with
  | zero => exact fun _ _ _ _ _ => tr_none
  | succ n ih =>
    intro σ l0 l3 l4 h0
    show TrO G mX12_compare d 0 0 0 0 ms_wi 22 [(0, .ref l0), (3, .int l3), (4, .int l4)] [] σ (if l4 < (if (ms_i σ l0 22) < (ms_i σ l0 11) then (ms_i σ l0 22) else (ms_i σ l0 11)) then if l3 = 0 then (ms_ald σ (ms_rf l0 10) l4).bind fun v4 => (ms_ald σ (ms_rf l0 20) l4).bind fun v5 => (f_X12_compare_22 n) σ l0 (v4 - v5) (l4 + 1) else f_X12_compare_64 σ l0 l3 else f_X12_compare_64 σ l0 l3)
    refine tr_iload (i := 2) dX12_compare_22 rfl ?_
    refine tr_aload_n (i := 0) dX12_compare_24 rfl ?_
    refine tr_getI 12 h0 fl_X12_132 (by decide +kernel) dX12_compare_25 ?_
    refine tr_aload_n (i := 0) dX12_compare_28 rfl ?_
    refine tr_getI 12 h0 fl_X12_290 (by decide +kernel) dX12_compare_29 ?_
    refine tr_mmin (List.mem_of_getElem? (i := 1917) (by decide +kernel)) (List.mem_of_getElem? (i := 786) (by decide +kernel)) (List.mem_of_getElem? (i := 144) (by decide +kernel)) (List.mem_of_getElem? (i := 787) (by decide +kernel)) (by omega) (Nat.le_of_ble_eq_true rfl) (by decide) (by decide) dX12_compare_32 ?_
    refine tr_icge (o := none) (tgt := 64) dX12_compare_35 (by decide) ?_ ?_
    · refine tr_weak [0, 1] (lv' := [(0, .ref l0), (3, .int l3)]) rfl ?_
      exact t_X12_compare_64 G hG d hd σ l0 l3 h0
    · refine tr_iload_n (i := 1) dX12_compare_38 rfl ?_
      refine tr_ifne (o := none) (tgt := 64) dX12_compare_39 (by decide) ?_ ?_
      · refine tr_weak [0, 1] (lv' := [(0, .ref l0), (3, .int l3)]) rfl ?_
        exact t_X12_compare_64 G hG d hd σ l0 l3 h0
      · refine tr_aload_n (i := 0) dX12_compare_42 rfl ?_
        refine tr_getR 12 h0 fl_X12_31 (by decide +kernel) dX12_compare_43 ?_
        refine tr_iload (i := 2) dX12_compare_46 rfl ?_
        refine tr_ald (rk_12_10 h0) dX12_compare_48 (fun v4 => ?_)
        refine tr_aload_n (i := 0) dX12_compare_49 rfl ?_
        refine tr_getR 12 h0 fl_X12_53 (by decide +kernel) dX12_compare_50 ?_
        refine tr_iload (i := 2) dX12_compare_53 rfl ?_
        refine tr_ald (rk_12_20 h0) dX12_compare_55 (fun v5 => ?_)
        refine tr_isub dX12_compare_56 ?_
        refine tr_istore_n (lv' := [(0, .ref l0), (3, .int (v4 - v5)), (4, .int l4)]) [1, 0, 2] dX12_compare_57 (by decide) rfl ?_
        refine tr_iinc (k := 2) (v := (l4 + 1)) (lv' := [(0, .ref l0), (3, .int (v4 - v5)), (4, .int (l4 + 1))]) [1, 2, 0] dX12_compare_58 rfl rfl (by decide) rfl ?_
        refine tr_goto (tgt := 22) dX12_compare_61 (by decide) ?_
        exact (fun s y0 y1 y2 g0 => ih s y0 y1 y2 g0) σ l0 (v4 - v5) (l4 + 1) h0
set_option maxRecDepth 100000 in
theorem sp_X12_compare (G : MG) (hG : (g_l G).stackTraces = false) (d : Nat) (hd : 8 ≤ d)   (σ : MsSt) (l0 : Nat) (l1 : Int32) (l2 : Int32) (h0 : ms_kd l0 = 13) : MsSpec G mX12_compare d 0 0 [.ref l0, .int l1, .int l2] σ ms_wi (f_X12_compare σ l0 l1 l2) := by
  refine ms_start (by decide +kernel) rfl rfl (Nat.le_of_ble_eq_true rfl) ?_
  show TrO G mX12_compare d 0 0 0 0 ms_wi 0 [(0, .ref l0), (1, .int l1), (2, .int l2)] [] σ (ms_b2 (f_X12_noTwoLines σ l0 l1 l2) fun v1 s2 => if v1 = 0 then (f_X12_layTwo s2 l0 l1 l2).bind fun s3 => f_X12_compare_22 ms_fuel s3 l0 0 0 else some (0, s2))
  refine tr_aload_n (i := 0) dX12_compare_0 rfl ?_
  refine tr_iload_n (i := 1) dX12_compare_1 rfl ?_
  refine tr_iload_n (i := 2) dX12_compare_2 rfl ?_
  refine tr_d_wi (ms_cV (rest := []) (al := [.int l1, .int l2]) 12 (sp_X12_noTwoLines G hG (d - 1) (by omega) σ l0 l1 l2 h0) h0 (by decide +kernel) kl_X12_296 fv_X12_noTwoLines dX12_compare_3 (show _ = some 2 by decide +kernel) (by omega) (Nat.le_of_ble_eq_true rfl) (by decide) (by decide)) (fun v1 s2 => ?_)
  refine tr_ifeq (o := none) (tgt := 11) dX12_compare_6 (by decide) ?_ ?_
  · refine tr_aload_n (i := 0) dX12_compare_11 rfl ?_
    refine tr_iload_n (i := 1) dX12_compare_12 rfl ?_
    refine tr_iload_n (i := 2) dX12_compare_13 rfl ?_
    refine tr_c_wv (ms_cV (rest := []) (al := [.int l1, .int l2]) 12 (sp_X12_layTwo G hG (d - 1) (by omega) s2 l0 l1 l2 h0) h0 (by decide +kernel) kl_X12_299 fv_X12_layTwo dX12_compare_14 (show _ = some 2 by decide +kernel) (by omega) (Nat.le_of_ble_eq_true rfl) (by decide) (by decide)) (fun s3 => ?_)
    refine tr_iconst (v := 0) dX12_compare_17 (by decide +kernel) ?_
    refine tr_istore_n (lv' := [(0, .ref l0), (3, .int 0)]) [1, 0] dX12_compare_18 (by decide) rfl ?_
    refine tr_iconst (v := 0) dX12_compare_19 (by decide +kernel) ?_
    refine tr_istore (lv' := [(0, .ref l0), (3, .int 0), (4, .int 0)]) [1, 2, 0] dX12_compare_20 (by decide) rfl ?_
    exact t_X12_compare_22 G hG d hd ms_fuel s3 l0 0 0 h0
  · refine tr_iconst (v := 0) dX12_compare_9 (by decide +kernel) ?_
    exact tr_iret rfl rfl (by decide) (by decide) dX12_compare_10
theorem dX12_otherBase_0 : decode cX12_otherBase 0 = .ok (.aload_n 0, 1) := by decide +kernel
theorem dX12_otherBase_1 : decode cX12_otherBase 1 = .ok (.getfield 53, 3) := by decide +kernel
theorem dX12_otherBase_4 : decode cX12_otherBase 4 = .ok (.aload_n 0, 1) := by decide +kernel
theorem dX12_otherBase_5 : decode cX12_otherBase 5 = .ok (.getfield 56, 3) := by decide +kernel
theorem dX12_otherBase_8 : decode cX12_otherBase 8 = .ok (.iload_n 1, 1) := by decide +kernel
theorem dX12_otherBase_9 : decode cX12_otherBase 9 = .ok (.iaload, 1) := by decide +kernel
theorem dX12_otherBase_10 : decode cX12_otherBase 10 = .ok (.iaload, 1) := by decide +kernel
theorem dX12_otherBase_11 : decode cX12_otherBase 11 = .ok (.istore_n 2, 1) := by decide +kernel
theorem dX12_otherBase_12 : decode cX12_otherBase 12 = .ok (.aload_n 0, 1) := by decide +kernel
theorem dX12_otherBase_13 : decode cX12_otherBase 13 = .ok (.iload_n 2, 1) := by decide +kernel
theorem dX12_otherBase_14 : decode cX12_otherBase 14 = .ok (.invokevirtual 135, 3) := by decide +kernel
theorem dX12_otherBase_17 : decode cX12_otherBase 17 = .ok (.ifCond .eq 7, 3) := by decide +kernel
theorem dX12_otherBase_20 : decode cX12_otherBase 20 = .ok (.iconst (-1), 1) := by decide +kernel
theorem dX12_otherBase_21 : decode cX12_otherBase 21 = .ok (.goto 4, 3) := by decide +kernel
theorem dX12_otherBase_24 : decode cX12_otherBase 24 = .ok (.iload_n 2, 1) := by decide +kernel
theorem dX12_otherBase_25 : decode cX12_otherBase 25 = .ok (.ireturn, 1) := by decide +kernel
set_option maxRecDepth 100000 in
theorem sp_X12_otherBase (G : MG) (hG : (g_l G).stackTraces = false) (d : Nat) (hd : 3 ≤ d)   (σ : MsSt) (l0 : Nat) (l1 : Int32) (h0 : ms_kd l0 = 13) : MsSpec G mX12_otherBase d 0 0 [.ref l0, .int l1] σ (ms_ki σ) (f_X12_otherBase σ l0 l1) := by
  refine ms_start (by decide +kernel) rfl rfl (Nat.le_of_ble_eq_true rfl) ?_
  show TrO G mX12_otherBase d 0 0 0 0 (ms_ki σ) 0 [(0, .ref l0), (1, .int l1)] [] σ ((ms_ald σ (ms_rf l0 21) l1).bind fun v1 => (ms_ald σ (ms_rf l0 20) v1).bind fun v2 => (f_X12_isMark σ l0 v2).bind fun v3 => if v3 = 0 then some v2 else some (-1))
  refine tr_aload_n (i := 0) dX12_otherBase_0 rfl ?_
  refine tr_getR 12 h0 fl_X12_53 (by decide +kernel) dX12_otherBase_1 ?_
  refine tr_aload_n (i := 0) dX12_otherBase_4 rfl ?_
  refine tr_getR 12 h0 fl_X12_56 (by decide +kernel) dX12_otherBase_5 ?_
  refine tr_iload_n (i := 1) dX12_otherBase_8 rfl ?_
  refine tr_ald (rk_12_21 h0) dX12_otherBase_9 (fun v1 => ?_)
  refine tr_ald (rk_12_20 h0) dX12_otherBase_10 (fun v2 => ?_)
  refine tr_istore_n (lv' := [(0, .ref l0), (2, .int v2)]) [1, 0] dX12_otherBase_11 (by decide) rfl ?_
  refine tr_aload_n (i := 0) dX12_otherBase_12 rfl ?_
  refine tr_iload_n (i := 1) dX12_otherBase_13 rfl ?_
  refine tr_c_i (ms_cV (rest := []) (al := [.int v2]) 12 (sp_X12_isMark G hG (d - 1) (by omega) σ l0 v2 h0) h0 (by decide +kernel) kl_X12_135 fv_X12_isMark dX12_otherBase_14 (show _ = some 1 by decide +kernel) (by omega) (Nat.le_of_ble_eq_true rfl) (by decide) (by decide)) (fun v3 => ?_)
  refine tr_ifeq (o := none) (tgt := 24) dX12_otherBase_17 (by decide) ?_ ?_
  · refine tr_iload_n (i := 1) dX12_otherBase_24 rfl ?_
    exact tr_iret rfl rfl (by decide) (by decide) dX12_otherBase_25
  · refine tr_iconst (v := (-1)) dX12_otherBase_20 (by decide +kernel) ?_
    refine tr_goto (tgt := 25) dX12_otherBase_21 (by decide) ?_
    exact tr_iret rfl rfl (by decide) (by decide) dX12_otherBase_25
theorem dX12_areBare_0 : decode cX12_areBare 0 = .ok (.aload_n 0, 1) := by decide +kernel
theorem dX12_areBare_1 : decode cX12_areBare 1 = .ok (.iload_n 1, 1) := by decide +kernel
theorem dX12_areBare_2 : decode cX12_areBare 2 = .ok (.iload_n 2, 1) := by decide +kernel
theorem dX12_areBare_3 : decode cX12_areBare 3 = .ok (.invokevirtual 296, 3) := by decide +kernel
theorem dX12_areBare_6 : decode cX12_areBare 6 = .ok (.ifCond .eq 5, 3) := by decide +kernel
theorem dX12_areBare_9 : decode cX12_areBare 9 = .ok (.iconst 0, 1) := by decide +kernel
theorem dX12_areBare_10 : decode cX12_areBare 10 = .ok (.ireturn, 1) := by decide +kernel
theorem dX12_areBare_11 : decode cX12_areBare 11 = .ok (.aload_n 0, 1) := by decide +kernel
theorem dX12_areBare_12 : decode cX12_areBare 12 = .ok (.iload_n 1, 1) := by decide +kernel
theorem dX12_areBare_13 : decode cX12_areBare 13 = .ok (.iload_n 2, 1) := by decide +kernel
theorem dX12_areBare_14 : decode cX12_areBare 14 = .ok (.invokevirtual 299, 3) := by decide +kernel
theorem dX12_areBare_17 : decode cX12_areBare 17 = .ok (.aload_n 0, 1) := by decide +kernel
theorem dX12_areBare_18 : decode cX12_areBare 18 = .ok (.getfield 168, 3) := by decide +kernel
theorem dX12_areBare_21 : decode cX12_areBare 21 = .ok (.aload_n 0, 1) := by decide +kernel
theorem dX12_areBare_22 : decode cX12_areBare 22 = .ok (.getfield 293, 3) := by decide +kernel
theorem dX12_areBare_25 : decode cX12_areBare 25 = .ok (.if_icmp .ne 7, 3) := by decide +kernel
theorem dX12_areBare_28 : decode cX12_areBare 28 = .ok (.iconst 1, 1) := by decide +kernel
theorem dX12_areBare_29 : decode cX12_areBare 29 = .ok (.goto 4, 3) := by decide +kernel
theorem dX12_areBare_32 : decode cX12_areBare 32 = .ok (.iconst 0, 1) := by decide +kernel
theorem dX12_areBare_33 : decode cX12_areBare 33 = .ok (.istore_n 3, 1) := by decide +kernel
theorem dX12_areBare_34 : decode cX12_areBare 34 = .ok (.iconst 0, 1) := by decide +kernel
theorem dX12_areBare_35 : decode cX12_areBare 35 = .ok (.istore 4, 2) := by decide +kernel
theorem dX12_areBare_37 : decode cX12_areBare 37 = .ok (.iload 4, 2) := by decide +kernel
theorem dX12_areBare_39 : decode cX12_areBare 39 = .ok (.aload_n 0, 1) := by decide +kernel
theorem dX12_areBare_40 : decode cX12_areBare 40 = .ok (.getfield 168, 3) := by decide +kernel
theorem dX12_areBare_43 : decode cX12_areBare 43 = .ok (.if_icmp .ge 34, 3) := by decide +kernel
theorem dX12_areBare_46 : decode cX12_areBare 46 = .ok (.iload_n 3, 1) := by decide +kernel
theorem dX12_areBare_47 : decode cX12_areBare 47 = .ok (.ifCond .eq 30, 3) := by decide +kernel
theorem dX12_areBare_50 : decode cX12_areBare 50 = .ok (.aload_n 0, 1) := by decide +kernel
theorem dX12_areBare_51 : decode cX12_areBare 51 = .ok (.iload 4, 2) := by decide +kernel
theorem dX12_areBare_53 : decode cX12_areBare 53 = .ok (.invokevirtual 171, 3) := by decide +kernel
theorem dX12_areBare_56 : decode cX12_areBare 56 = .ok (.aload_n 0, 1) := by decide +kernel
theorem dX12_areBare_57 : decode cX12_areBare 57 = .ok (.iload 4, 2) := by decide +kernel
theorem dX12_areBare_59 : decode cX12_areBare 59 = .ok (.invokevirtual 303, 3) := by decide +kernel
theorem dX12_areBare_62 : decode cX12_areBare 62 = .ok (.if_icmp .ne 7, 3) := by decide +kernel
theorem dX12_areBare_65 : decode cX12_areBare 65 = .ok (.iconst 1, 1) := by decide +kernel
theorem dX12_areBare_66 : decode cX12_areBare 66 = .ok (.goto 4, 3) := by decide +kernel
theorem dX12_areBare_69 : decode cX12_areBare 69 = .ok (.iconst 0, 1) := by decide +kernel
theorem dX12_areBare_70 : decode cX12_areBare 70 = .ok (.istore_n 3, 1) := by decide +kernel
theorem dX12_areBare_71 : decode cX12_areBare 71 = .ok (.iinc 4 1, 3) := by decide +kernel
theorem dX12_areBare_74 : decode cX12_areBare 74 = .ok (.goto (-37), 3) := by decide +kernel
theorem dX12_areBare_77 : decode cX12_areBare 77 = .ok (.iload_n 3, 1) := by decide +kernel
theorem dX12_areBare_78 : decode cX12_areBare 78 = .ok (.ireturn, 1) := by decide +kernel
set_option maxRecDepth 100000 in
theorem t_X12_areBare_37 (G : MG) (hG : (g_l G).stackTraces = false) (d : Nat) (hd : 8 ≤ d)    : ∀ (n : Nat) (σ : MsSt) (l0 : Nat) (l3 : Int32) (l4 : Int32) (h0 : ms_kd l0 = 13), TrO G mX12_areBare d 0 0 0 0 ms_wi 37 [(0, .ref l0), (3, .int l3), (4, .int l4)] [] σ (f_X12_areBare_37 n σ l0 l3 l4) := by
  intro n
  induction n with
  | zero => exact fun _ _ _ _ _ => tr_none
  | succ n ih =>
    intro σ l0 l3 l4 h0
    show TrO G mX12_areBare d 0 0 0 0 ms_wi 37 [(0, .ref l0), (3, .int l3), (4, .int l4)] [] σ (if l4 < (ms_i σ l0 17) then if l3 = 0 then (ms_bz l3).bind fun v5 => some (v5, σ) else (f_X12_baseOf σ l0 l4).bind fun v6 => (f_X12_otherBase σ l0 l4).bind fun v7 => if v6 = v7 then (f_X12_areBare_37 n) σ l0 1 (l4 + 1) else (f_X12_areBare_37 n) σ l0 0 (l4 + 1) else (ms_bz l3).bind fun v4 => some (v4, σ))
    refine tr_iload (i := 2) dX12_areBare_37 rfl ?_
    refine tr_aload_n (i := 0) dX12_areBare_39 rfl ?_
    refine tr_getI 12 h0 fl_X12_168 (by decide +kernel) dX12_areBare_40 ?_
    refine tr_icge (o := none) (tgt := 77) dX12_areBare_43 (by decide) ?_ ?_
    · refine tr_iload_n (i := 1) dX12_areBare_77 rfl ?_
      exact tr_bret rfl rfl rfl (by decide) (by decide) dX12_areBare_78
    · refine tr_iload_n (i := 1) dX12_areBare_46 rfl ?_
      refine tr_ifeq (o := none) (tgt := 77) dX12_areBare_47 (by decide) ?_ ?_
      · refine tr_iload_n (i := 1) dX12_areBare_77 rfl ?_
        exact tr_bret rfl rfl rfl (by decide) (by decide) dX12_areBare_78
      · refine tr_aload_n (i := 0) dX12_areBare_50 rfl ?_
        refine tr_iload (i := 2) dX12_areBare_51 rfl ?_
        refine tr_c_i (ms_cV (rest := []) (al := [.int l4]) 12 (sp_X12_baseOf G hG (d - 1) (by omega) σ l0 l4 h0) h0 (by decide +kernel) kl_X12_171 fv_X12_baseOf dX12_areBare_53 (show _ = some 1 by decide +kernel) (by omega) (Nat.le_of_ble_eq_true rfl) (by decide) (by decide)) (fun v6 => ?_)
        refine tr_aload_n (i := 0) dX12_areBare_56 rfl ?_
        refine tr_iload (i := 2) dX12_areBare_57 rfl ?_
        refine tr_c_i (ms_cV (rest := [.int v6]) (al := [.int l4]) 12 (sp_X12_otherBase G hG (d - 1) (by omega) σ l0 l4 h0) h0 (by decide +kernel) kl_X12_303 fv_X12_otherBase dX12_areBare_59 (show _ = some 1 by decide +kernel) (by omega) (Nat.le_of_ble_eq_true rfl) (by decide) (by decide)) (fun v7 => ?_)
        refine tr_icne (o := none) (tgt := 69) dX12_areBare_62 (by decide) ?_ ?_
        · refine tr_iconst (v := 0) dX12_areBare_69 (by decide +kernel) ?_
          refine tr_istore_n (lv' := [(0, .ref l0), (3, .int 0), (4, .int l4)]) [1, 0, 2] dX12_areBare_70 (by decide) rfl ?_
          refine tr_iinc (k := 2) (v := (l4 + 1)) (lv' := [(0, .ref l0), (3, .int 0), (4, .int (l4 + 1))]) [1, 2, 0] dX12_areBare_71 rfl rfl (by decide) rfl ?_
          refine tr_goto (tgt := 37) dX12_areBare_74 (by decide) ?_
          exact (fun s y0 y1 y2 g0 => ih s y0 y1 y2 g0) σ l0 0 (l4 + 1) h0
        · refine tr_iconst (v := 1) dX12_areBare_65 (by decide +kernel) ?_
          refine tr_goto (tgt := 70) dX12_areBare_66 (by decide) ?_
          refine tr_istore_n (lv' := [(0, .ref l0), (3, .int 1), (4, .int l4)]) [1, 0, 2] dX12_areBare_70 (by decide) rfl ?_
          refine tr_iinc (k := 2) (v := (l4 + 1)) (lv' := [(0, .ref l0), (3, .int 1), (4, .int (l4 + 1))]) [1, 2, 0] dX12_areBare_71 rfl rfl (by decide) rfl ?_
          refine tr_goto (tgt := 37) dX12_areBare_74 (by decide) ?_
          exact (fun s y0 y1 y2 g0 => ih s y0 y1 y2 g0) σ l0 1 (l4 + 1) h0
set_option maxRecDepth 100000 in
theorem sp_X12_areBare (G : MG) (hG : (g_l G).stackTraces = false) (d : Nat) (hd : 8 ≤ d)   (σ : MsSt) (l0 : Nat) (l1 : Int32) (l2 : Int32) (h0 : ms_kd l0 = 13) : MsSpec G mX12_areBare d 0 0 [.ref l0, .int l1, .int l2] σ ms_wi (f_X12_areBare σ l0 l1 l2) := by
  refine ms_start (by decide +kernel) rfl rfl (Nat.le_of_ble_eq_true rfl) ?_
  show TrO G mX12_areBare d 0 0 0 0 ms_wi 0 [(0, .ref l0), (1, .int l1), (2, .int l2)] [] σ (ms_b2 (f_X12_noTwoLines σ l0 l1 l2) fun v1 s2 => if v1 = 0 then (f_X12_layTwo s2 l0 l1 l2).bind fun s3 => if (ms_i s3 l0 17) = (ms_i s3 l0 23) then f_X12_areBare_37 ms_fuel s3 l0 1 0 else f_X12_areBare_37 ms_fuel s3 l0 0 0 else some (0, s2))
  refine tr_aload_n (i := 0) dX12_areBare_0 rfl ?_
  refine tr_iload_n (i := 1) dX12_areBare_1 rfl ?_
  refine tr_iload_n (i := 2) dX12_areBare_2 rfl ?_
  refine tr_d_wi (ms_cV (rest := []) (al := [.int l1, .int l2]) 12 (sp_X12_noTwoLines G hG (d - 1) (by omega) σ l0 l1 l2 h0) h0 (by decide +kernel) kl_X12_296 fv_X12_noTwoLines dX12_areBare_3 (show _ = some 2 by decide +kernel) (by omega) (Nat.le_of_ble_eq_true rfl) (by decide) (by decide)) (fun v1 s2 => ?_)
  refine tr_ifeq (o := none) (tgt := 11) dX12_areBare_6 (by decide) ?_ ?_
  · refine tr_aload_n (i := 0) dX12_areBare_11 rfl ?_
    refine tr_iload_n (i := 1) dX12_areBare_12 rfl ?_
    refine tr_iload_n (i := 2) dX12_areBare_13 rfl ?_
    refine tr_c_wv (ms_cV (rest := []) (al := [.int l1, .int l2]) 12 (sp_X12_layTwo G hG (d - 1) (by omega) s2 l0 l1 l2 h0) h0 (by decide +kernel) kl_X12_299 fv_X12_layTwo dX12_areBare_14 (show _ = some 2 by decide +kernel) (by omega) (Nat.le_of_ble_eq_true rfl) (by decide) (by decide)) (fun s3 => ?_)
    refine tr_aload_n (i := 0) dX12_areBare_17 rfl ?_
    refine tr_getI 12 h0 fl_X12_168 (by decide +kernel) dX12_areBare_18 ?_
    refine tr_aload_n (i := 0) dX12_areBare_21 rfl ?_
    refine tr_getI 12 h0 fl_X12_293 (by decide +kernel) dX12_areBare_22 ?_
    refine tr_icne (o := none) (tgt := 32) dX12_areBare_25 (by decide) ?_ ?_
    · refine tr_iconst (v := 0) dX12_areBare_32 (by decide +kernel) ?_
      refine tr_istore_n (lv' := [(0, .ref l0), (3, .int 0)]) [1, 0] dX12_areBare_33 (by decide) rfl ?_
      refine tr_iconst (v := 0) dX12_areBare_34 (by decide +kernel) ?_
      refine tr_istore (lv' := [(0, .ref l0), (3, .int 0), (4, .int 0)]) [1, 2, 0] dX12_areBare_35 (by decide) rfl ?_
      exact t_X12_areBare_37 G hG d hd ms_fuel s3 l0 0 0 h0
    · refine tr_iconst (v := 1) dX12_areBare_28 (by decide +kernel) ?_
      refine tr_goto (tgt := 33) dX12_areBare_29 (by decide) ?_
      refine tr_istore_n (lv' := [(0, .ref l0), (3, .int 1)]) [1, 0] dX12_areBare_33 (by decide) rfl ?_
      refine tr_iconst (v := 0) dX12_areBare_34 (by decide +kernel) ?_
      refine tr_istore (lv' := [(0, .ref l0), (3, .int 1), (4, .int 0)]) [1, 2, 0] dX12_areBare_35 (by decide) rfl ?_
      exact t_X12_areBare_37 G hG d hd ms_fuel s3 l0 1 0 h0
  · refine tr_iconst (v := 0) dX12_areBare_9 (by decide +kernel) ?_
    exact tr_zret rfl (by decide +kernel) rfl (by decide) (by decide) dX12_areBare_10
theorem dX12_isSameCluster_0 : decode cX12_isSameCluster 0 = .ok (.aload_n 0, 1) := by decide +kernel
theorem dX12_isSameCluster_1 : decode cX12_isSameCluster 1 = .ok (.getfield 40, 3) := by decide +kernel
theorem dX12_isSameCluster_4 : decode cX12_isSameCluster 4 = .ok (.iload_n 1, 1) := by decide +kernel
theorem dX12_isSameCluster_5 : decode cX12_isSameCluster 5 = .ok (.iconst 1, 1) := by decide +kernel
theorem dX12_isSameCluster_6 : decode cX12_isSameCluster 6 = .ok (.iadd, 1) := by decide +kernel
theorem dX12_isSameCluster_7 : decode cX12_isSameCluster 7 = .ok (.iaload, 1) := by decide +kernel
theorem dX12_isSameCluster_8 : decode cX12_isSameCluster 8 = .ok (.aload_n 0, 1) := by decide +kernel
theorem dX12_isSameCluster_9 : decode cX12_isSameCluster 9 = .ok (.getfield 40, 3) := by decide +kernel
theorem dX12_isSameCluster_12 : decode cX12_isSameCluster 12 = .ok (.iload_n 1, 1) := by decide +kernel
theorem dX12_isSameCluster_13 : decode cX12_isSameCluster 13 = .ok (.iaload, 1) := by decide +kernel
theorem dX12_isSameCluster_14 : decode cX12_isSameCluster 14 = .ok (.isub, 1) := by decide +kernel
theorem dX12_isSameCluster_15 : decode cX12_isSameCluster 15 = .ok (.istore_n 3, 1) := by decide +kernel
theorem dX12_isSameCluster_16 : decode cX12_isSameCluster 16 = .ok (.iload_n 3, 1) := by decide +kernel
theorem dX12_isSameCluster_17 : decode cX12_isSameCluster 17 = .ok (.aload_n 0, 1) := by decide +kernel
theorem dX12_isSameCluster_18 : decode cX12_isSameCluster 18 = .ok (.getfield 56, 3) := by decide +kernel
theorem dX12_isSameCluster_21 : decode cX12_isSameCluster 21 = .ok (.iload_n 2, 1) := by decide +kernel
theorem dX12_isSameCluster_22 : decode cX12_isSameCluster 22 = .ok (.iconst 1, 1) := by decide +kernel
theorem dX12_isSameCluster_23 : decode cX12_isSameCluster 23 = .ok (.iadd, 1) := by decide +kernel
theorem dX12_isSameCluster_24 : decode cX12_isSameCluster 24 = .ok (.iaload, 1) := by decide +kernel
theorem dX12_isSameCluster_25 : decode cX12_isSameCluster 25 = .ok (.aload_n 0, 1) := by decide +kernel
theorem dX12_isSameCluster_26 : decode cX12_isSameCluster 26 = .ok (.getfield 56, 3) := by decide +kernel
theorem dX12_isSameCluster_29 : decode cX12_isSameCluster 29 = .ok (.iload_n 2, 1) := by decide +kernel
theorem dX12_isSameCluster_30 : decode cX12_isSameCluster 30 = .ok (.iaload, 1) := by decide +kernel
theorem dX12_isSameCluster_31 : decode cX12_isSameCluster 31 = .ok (.isub, 1) := by decide +kernel
theorem dX12_isSameCluster_32 : decode cX12_isSameCluster 32 = .ok (.if_icmp .ne 7, 3) := by decide +kernel
theorem dX12_isSameCluster_35 : decode cX12_isSameCluster 35 = .ok (.iconst 1, 1) := by decide +kernel
theorem dX12_isSameCluster_36 : decode cX12_isSameCluster 36 = .ok (.goto 4, 3) := by decide +kernel
theorem dX12_isSameCluster_39 : decode cX12_isSameCluster 39 = .ok (.iconst 0, 1) := by decide +kernel
theorem dX12_isSameCluster_40 : decode cX12_isSameCluster 40 = .ok (.istore 4, 2) := by decide +kernel
theorem dX12_isSameCluster_42 : decode cX12_isSameCluster 42 = .ok (.iconst 0, 1) := by decide +kernel
theorem dX12_isSameCluster_43 : decode cX12_isSameCluster 43 = .ok (.istore 5, 2) := by decide +kernel
theorem dX12_isSameCluster_45 : decode cX12_isSameCluster 45 = .ok (.iload 5, 2) := by decide +kernel
theorem dX12_isSameCluster_47 : decode cX12_isSameCluster 47 = .ok (.iload_n 3, 1) := by decide +kernel
theorem dX12_isSameCluster_48 : decode cX12_isSameCluster 48 = .ok (.if_icmp .ge 52, 3) := by decide +kernel
theorem dX12_isSameCluster_51 : decode cX12_isSameCluster 51 = .ok (.iload 4, 2) := by decide +kernel
theorem dX12_isSameCluster_53 : decode cX12_isSameCluster 53 = .ok (.ifCond .eq 47, 3) := by decide +kernel
theorem dX12_isSameCluster_56 : decode cX12_isSameCluster 56 = .ok (.aload_n 0, 1) := by decide +kernel
theorem dX12_isSameCluster_57 : decode cX12_isSameCluster 57 = .ok (.getfield 31, 3) := by decide +kernel
theorem dX12_isSameCluster_60 : decode cX12_isSameCluster 60 = .ok (.aload_n 0, 1) := by decide +kernel
theorem dX12_isSameCluster_61 : decode cX12_isSameCluster 61 = .ok (.getfield 40, 3) := by decide +kernel
theorem dX12_isSameCluster_64 : decode cX12_isSameCluster 64 = .ok (.iload_n 1, 1) := by decide +kernel
theorem dX12_isSameCluster_65 : decode cX12_isSameCluster 65 = .ok (.iaload, 1) := by decide +kernel
theorem dX12_isSameCluster_66 : decode cX12_isSameCluster 66 = .ok (.iload 5, 2) := by decide +kernel
theorem dX12_isSameCluster_68 : decode cX12_isSameCluster 68 = .ok (.iadd, 1) := by decide +kernel
theorem dX12_isSameCluster_69 : decode cX12_isSameCluster 69 = .ok (.iaload, 1) := by decide +kernel
theorem dX12_isSameCluster_70 : decode cX12_isSameCluster 70 = .ok (.aload_n 0, 1) := by decide +kernel
theorem dX12_isSameCluster_71 : decode cX12_isSameCluster 71 = .ok (.getfield 53, 3) := by decide +kernel
theorem dX12_isSameCluster_74 : decode cX12_isSameCluster 74 = .ok (.aload_n 0, 1) := by decide +kernel
theorem dX12_isSameCluster_75 : decode cX12_isSameCluster 75 = .ok (.getfield 56, 3) := by decide +kernel
theorem dX12_isSameCluster_78 : decode cX12_isSameCluster 78 = .ok (.iload_n 2, 1) := by decide +kernel
theorem dX12_isSameCluster_79 : decode cX12_isSameCluster 79 = .ok (.iaload, 1) := by decide +kernel
theorem dX12_isSameCluster_80 : decode cX12_isSameCluster 80 = .ok (.iload 5, 2) := by decide +kernel
theorem dX12_isSameCluster_82 : decode cX12_isSameCluster 82 = .ok (.iadd, 1) := by decide +kernel
theorem dX12_isSameCluster_83 : decode cX12_isSameCluster 83 = .ok (.iaload, 1) := by decide +kernel
theorem dX12_isSameCluster_84 : decode cX12_isSameCluster 84 = .ok (.if_icmp .ne 7, 3) := by decide +kernel
theorem dX12_isSameCluster_87 : decode cX12_isSameCluster 87 = .ok (.iconst 1, 1) := by decide +kernel
theorem dX12_isSameCluster_88 : decode cX12_isSameCluster 88 = .ok (.goto 4, 3) := by decide +kernel
theorem dX12_isSameCluster_91 : decode cX12_isSameCluster 91 = .ok (.iconst 0, 1) := by decide +kernel
theorem dX12_isSameCluster_92 : decode cX12_isSameCluster 92 = .ok (.istore 4, 2) := by decide +kernel
theorem dX12_isSameCluster_94 : decode cX12_isSameCluster 94 = .ok (.iinc 5 1, 3) := by decide +kernel
theorem dX12_isSameCluster_97 : decode cX12_isSameCluster 97 = .ok (.goto (-52), 3) := by decide +kernel
theorem dX12_isSameCluster_100 : decode cX12_isSameCluster 100 = .ok (.iload 4, 2) := by decide +kernel
theorem dX12_isSameCluster_102 : decode cX12_isSameCluster 102 = .ok (.ireturn, 1) := by decide +kernel
set_option maxRecDepth 100000 in
theorem t_X12_isSameCluster_45 (G : MG) (hG : (g_l G).stackTraces = false) (d : Nat) (hd : 0 ≤ d)   (σ : MsSt)  : ∀ (n : Nat) (l0 : Nat) (l1 : Int32) (l2 : Int32) (l3 : Int32) (l4 : Int32) (l5 : Int32) (h0 : ms_kd l0 = 13), TrO G mX12_isSameCluster d 0 0 0 0 (ms_ki σ) 45 [(0, .ref l0), (1, .int l1), (2, .int l2), (3, .int l3), (4, .int l4), (5, .int l5)] [] σ (f_X12_isSameCluster_45 σ n l0 l1 l2 l3 l4 l5) := by
  intro n
  induction n with
  | zero => exact fun _ _ _ _ _ _ _ => tr_none
  | succ n ih =>
    intro l0 l1 l2 l3 l4 l5 h0
    show TrO G mX12_isSameCluster d 0 0 0 0 (ms_ki σ) 45 [(0, .ref l0), (1, .int l1), (2, .int l2), (3, .int l3), (4, .int l4), (5, .int l5)] [] σ (if l5 < l3 then if l4 = 0 then (ms_bz l4).bind fun v6 => some v6 else (ms_ald σ (ms_rf l0 16) l1).bind fun v7 => (ms_ald σ (ms_rf l0 10) (v7 + l5)).bind fun v8 => (ms_ald σ (ms_rf l0 21) l2).bind fun v9 => (ms_ald σ (ms_rf l0 20) (v9 + l5)).bind fun v10 => if v8 = v10 then (f_X12_isSameCluster_45 σ n) l0 l1 l2 l3 1 (l5 + 1) else (f_X12_isSameCluster_45 σ n) l0 l1 l2 l3 0 (l5 + 1) else (ms_bz l4).bind fun v5 => some v5)
    refine tr_iload (i := 5) dX12_isSameCluster_45 rfl ?_
    refine tr_iload_n (i := 3) dX12_isSameCluster_47 rfl ?_
    refine tr_icge (o := none) (tgt := 100) dX12_isSameCluster_48 (by decide) ?_ ?_
    · refine tr_iload (i := 4) dX12_isSameCluster_100 rfl ?_
      exact tr_bret rfl rfl rfl (by decide) (by decide) dX12_isSameCluster_102
    · refine tr_iload (i := 4) dX12_isSameCluster_51 rfl ?_
      refine tr_ifeq (o := none) (tgt := 100) dX12_isSameCluster_53 (by decide) ?_ ?_
      · refine tr_iload (i := 4) dX12_isSameCluster_100 rfl ?_
        exact tr_bret rfl rfl rfl (by decide) (by decide) dX12_isSameCluster_102
      · refine tr_aload_n (i := 0) dX12_isSameCluster_56 rfl ?_
        refine tr_getR 12 h0 fl_X12_31 (by decide +kernel) dX12_isSameCluster_57 ?_
        refine tr_aload_n (i := 0) dX12_isSameCluster_60 rfl ?_
        refine tr_getR 12 h0 fl_X12_40 (by decide +kernel) dX12_isSameCluster_61 ?_
        refine tr_iload_n (i := 1) dX12_isSameCluster_64 rfl ?_
        refine tr_ald (rk_12_16 h0) dX12_isSameCluster_65 (fun v7 => ?_)
        refine tr_iload (i := 5) dX12_isSameCluster_66 rfl ?_
        refine tr_iadd dX12_isSameCluster_68 ?_
        refine tr_ald (rk_12_10 h0) dX12_isSameCluster_69 (fun v8 => ?_)
        refine tr_aload_n (i := 0) dX12_isSameCluster_70 rfl ?_
        refine tr_getR 12 h0 fl_X12_53 (by decide +kernel) dX12_isSameCluster_71 ?_
        refine tr_aload_n (i := 0) dX12_isSameCluster_74 rfl ?_
        refine tr_getR 12 h0 fl_X12_56 (by decide +kernel) dX12_isSameCluster_75 ?_
        refine tr_iload_n (i := 2) dX12_isSameCluster_78 rfl ?_
        refine tr_ald (rk_12_21 h0) dX12_isSameCluster_79 (fun v9 => ?_)
        refine tr_iload (i := 5) dX12_isSameCluster_80 rfl ?_
        refine tr_iadd dX12_isSameCluster_82 ?_
        refine tr_ald (rk_12_20 h0) dX12_isSameCluster_83 (fun v10 => ?_)
        refine tr_icne (o := none) (tgt := 91) dX12_isSameCluster_84 (by decide) ?_ ?_
        · refine tr_iconst (v := 0) dX12_isSameCluster_91 (by decide +kernel) ?_
          refine tr_istore (lv' := [(0, .ref l0), (1, .int l1), (2, .int l2), (3, .int l3), (4, .int 0), (5, .int l5)]) [1, 2, 3, 4, 0, 5] dX12_isSameCluster_92 (by decide) rfl ?_
          refine tr_iinc (k := 5) (v := (l5 + 1)) (lv' := [(0, .ref l0), (1, .int l1), (2, .int l2), (3, .int l3), (4, .int 0), (5, .int (l5 + 1))]) [1, 2, 3, 4, 5, 0] dX12_isSameCluster_94 rfl rfl (by decide) rfl ?_
          refine tr_goto (tgt := 45) dX12_isSameCluster_97 (by decide) ?_
          exact (fun y0 y1 y2 y3 y4 y5 g0 => ih y0 y1 y2 y3 y4 y5 g0) l0 l1 l2 l3 0 (l5 + 1) h0
        · refine tr_iconst (v := 1) dX12_isSameCluster_87 (by decide +kernel) ?_
          refine tr_goto (tgt := 92) dX12_isSameCluster_88 (by decide) ?_
          refine tr_istore (lv' := [(0, .ref l0), (1, .int l1), (2, .int l2), (3, .int l3), (4, .int 1), (5, .int l5)]) [1, 2, 3, 4, 0, 5] dX12_isSameCluster_92 (by decide) rfl ?_
          refine tr_iinc (k := 5) (v := (l5 + 1)) (lv' := [(0, .ref l0), (1, .int l1), (2, .int l2), (3, .int l3), (4, .int 1), (5, .int (l5 + 1))]) [1, 2, 3, 4, 5, 0] dX12_isSameCluster_94 rfl rfl (by decide) rfl ?_
          refine tr_goto (tgt := 45) dX12_isSameCluster_97 (by decide) ?_
          exact (fun y0 y1 y2 y3 y4 y5 g0 => ih y0 y1 y2 y3 y4 y5 g0) l0 l1 l2 l3 1 (l5 + 1) h0
set_option maxRecDepth 100000 in
theorem sp_X12_isSameCluster (G : MG) (hG : (g_l G).stackTraces = false) (d : Nat) (hd : 0 ≤ d)   (σ : MsSt) (l0 : Nat) (l1 : Int32) (l2 : Int32) (h0 : ms_kd l0 = 13) : MsSpec G mX12_isSameCluster d 0 0 [.ref l0, .int l1, .int l2] σ (ms_ki σ) (f_X12_isSameCluster σ l0 l1 l2) := by
  refine ms_start (by decide +kernel) rfl rfl (Nat.le_of_ble_eq_true rfl) ?_
  show TrO G mX12_isSameCluster d 0 0 0 0 (ms_ki σ) 0 [(0, .ref l0), (1, .int l1), (2, .int l2)] [] σ ((ms_ald σ (ms_rf l0 16) (l1 + 1)).bind fun v1 => (ms_ald σ (ms_rf l0 16) l1).bind fun v2 => (ms_ald σ (ms_rf l0 21) (l2 + 1)).bind fun v3 => (ms_ald σ (ms_rf l0 21) l2).bind fun v4 => if (v1 - v2) = (v3 - v4) then f_X12_isSameCluster_45 σ ms_fuel l0 l1 l2 (v1 - v2) 1 0 else f_X12_isSameCluster_45 σ ms_fuel l0 l1 l2 (v1 - v2) 0 0)
  refine tr_aload_n (i := 0) dX12_isSameCluster_0 rfl ?_
  refine tr_getR 12 h0 fl_X12_40 (by decide +kernel) dX12_isSameCluster_1 ?_
  refine tr_iload_n (i := 1) dX12_isSameCluster_4 rfl ?_
  refine tr_iconst (v := 1) dX12_isSameCluster_5 (by decide +kernel) ?_
  refine tr_iadd dX12_isSameCluster_6 ?_
  refine tr_ald (rk_12_16 h0) dX12_isSameCluster_7 (fun v1 => ?_)
  refine tr_aload_n (i := 0) dX12_isSameCluster_8 rfl ?_
  refine tr_getR 12 h0 fl_X12_40 (by decide +kernel) dX12_isSameCluster_9 ?_
  refine tr_iload_n (i := 1) dX12_isSameCluster_12 rfl ?_
  refine tr_ald (rk_12_16 h0) dX12_isSameCluster_13 (fun v2 => ?_)
  refine tr_isub dX12_isSameCluster_14 ?_
  refine tr_istore_n (lv' := [(0, .ref l0), (1, .int l1), (2, .int l2), (3, .int (v1 - v2))]) [1, 2, 3, 0] dX12_isSameCluster_15 (by decide) rfl ?_
  refine tr_iload_n (i := 3) dX12_isSameCluster_16 rfl ?_
  refine tr_aload_n (i := 0) dX12_isSameCluster_17 rfl ?_
  refine tr_getR 12 h0 fl_X12_56 (by decide +kernel) dX12_isSameCluster_18 ?_
  refine tr_iload_n (i := 2) dX12_isSameCluster_21 rfl ?_
  refine tr_iconst (v := 1) dX12_isSameCluster_22 (by decide +kernel) ?_
  refine tr_iadd dX12_isSameCluster_23 ?_
  refine tr_ald (rk_12_21 h0) dX12_isSameCluster_24 (fun v3 => ?_)
  refine tr_aload_n (i := 0) dX12_isSameCluster_25 rfl ?_
  refine tr_getR 12 h0 fl_X12_56 (by decide +kernel) dX12_isSameCluster_26 ?_
  refine tr_iload_n (i := 2) dX12_isSameCluster_29 rfl ?_
  refine tr_ald (rk_12_21 h0) dX12_isSameCluster_30 (fun v4 => ?_)
  refine tr_isub dX12_isSameCluster_31 ?_
  refine tr_icne (o := none) (tgt := 39) dX12_isSameCluster_32 (by decide) ?_ ?_
  · refine tr_iconst (v := 0) dX12_isSameCluster_39 (by decide +kernel) ?_
    refine tr_istore (lv' := [(0, .ref l0), (1, .int l1), (2, .int l2), (3, .int (v1 - v2)), (4, .int 0)]) [1, 2, 3, 4, 0] dX12_isSameCluster_40 (by decide) rfl ?_
    refine tr_iconst (v := 0) dX12_isSameCluster_42 (by decide +kernel) ?_
    refine tr_istore (lv' := [(0, .ref l0), (1, .int l1), (2, .int l2), (3, .int (v1 - v2)), (4, .int 0), (5, .int 0)]) [1, 2, 3, 4, 5, 0] dX12_isSameCluster_43 (by decide) rfl ?_
    exact t_X12_isSameCluster_45 G hG d hd σ ms_fuel l0 l1 l2 (v1 - v2) 0 0 h0
  · refine tr_iconst (v := 1) dX12_isSameCluster_35 (by decide +kernel) ?_
    refine tr_goto (tgt := 40) dX12_isSameCluster_36 (by decide) ?_
    refine tr_istore (lv' := [(0, .ref l0), (1, .int l1), (2, .int l2), (3, .int (v1 - v2)), (4, .int 1)]) [1, 2, 3, 4, 0] dX12_isSameCluster_40 (by decide) rfl ?_
    refine tr_iconst (v := 0) dX12_isSameCluster_42 (by decide +kernel) ?_
    refine tr_istore (lv' := [(0, .ref l0), (1, .int l1), (2, .int l2), (3, .int (v1 - v2)), (4, .int 1), (5, .int 0)]) [1, 2, 3, 4, 5, 0] dX12_isSameCluster_43 (by decide) rfl ?_
    exact t_X12_isSameCluster_45 G hG d hd σ ms_fuel l0 l1 l2 (v1 - v2) 1 0 h0
theorem dX12_isMatch_0 : decode cX12_isMatch 0 = .ok (.iload_n 1, 1) := by decide +kernel
theorem dX12_isMatch_1 : decode cX12_isMatch 1 = .ok (.aload_n 0, 1) := by decide +kernel
theorem dX12_isMatch_2 : decode cX12_isMatch 2 = .ok (.getfield 293, 3) := by decide +kernel
theorem dX12_isMatch_5 : decode cX12_isMatch 5 = .ok (.iadd, 1) := by decide +kernel
theorem dX12_isMatch_6 : decode cX12_isMatch 6 = .ok (.aload_n 0, 1) := by decide +kernel
theorem dX12_isMatch_7 : decode cX12_isMatch 7 = .ok (.getfield 168, 3) := by decide +kernel
theorem dX12_isMatch_10 : decode cX12_isMatch 10 = .ok (.if_icmp .gt 7, 3) := by decide +kernel
theorem dX12_isMatch_13 : decode cX12_isMatch 13 = .ok (.iconst 1, 1) := by decide +kernel
theorem dX12_isMatch_14 : decode cX12_isMatch 14 = .ok (.goto 4, 3) := by decide +kernel
theorem dX12_isMatch_17 : decode cX12_isMatch 17 = .ok (.iconst 0, 1) := by decide +kernel
theorem dX12_isMatch_18 : decode cX12_isMatch 18 = .ok (.istore_n 3, 1) := by decide +kernel
theorem dX12_isMatch_19 : decode cX12_isMatch 19 = .ok (.iconst 0, 1) := by decide +kernel
theorem dX12_isMatch_20 : decode cX12_isMatch 20 = .ok (.istore 4, 2) := by decide +kernel
theorem dX12_isMatch_22 : decode cX12_isMatch 22 = .ok (.iload 4, 2) := by decide +kernel
theorem dX12_isMatch_24 : decode cX12_isMatch 24 = .ok (.aload_n 0, 1) := by decide +kernel
theorem dX12_isMatch_25 : decode cX12_isMatch 25 = .ok (.getfield 293, 3) := by decide +kernel
theorem dX12_isMatch_28 : decode cX12_isMatch 28 = .ok (.if_icmp .ge 53, 3) := by decide +kernel
theorem dX12_isMatch_31 : decode cX12_isMatch 31 = .ok (.iload_n 3, 1) := by decide +kernel
theorem dX12_isMatch_32 : decode cX12_isMatch 32 = .ok (.ifCond .eq 49, 3) := by decide +kernel
theorem dX12_isMatch_35 : decode cX12_isMatch 35 = .ok (.iload_n 2, 1) := by decide +kernel
theorem dX12_isMatch_36 : decode cX12_isMatch 36 = .ok (.ifCond .eq 28, 3) := by decide +kernel
theorem dX12_isMatch_39 : decode cX12_isMatch 39 = .ok (.aload_n 0, 1) := by decide +kernel
theorem dX12_isMatch_40 : decode cX12_isMatch 40 = .ok (.iload_n 1, 1) := by decide +kernel
theorem dX12_isMatch_41 : decode cX12_isMatch 41 = .ok (.iload 4, 2) := by decide +kernel
theorem dX12_isMatch_43 : decode cX12_isMatch 43 = .ok (.iadd, 1) := by decide +kernel
theorem dX12_isMatch_44 : decode cX12_isMatch 44 = .ok (.invokevirtual 171, 3) := by decide +kernel
theorem dX12_isMatch_47 : decode cX12_isMatch 47 = .ok (.aload_n 0, 1) := by decide +kernel
theorem dX12_isMatch_48 : decode cX12_isMatch 48 = .ok (.iload 4, 2) := by decide +kernel
theorem dX12_isMatch_50 : decode cX12_isMatch 50 = .ok (.invokevirtual 303, 3) := by decide +kernel
theorem dX12_isMatch_53 : decode cX12_isMatch 53 = .ok (.if_icmp .ne 7, 3) := by decide +kernel
theorem dX12_isMatch_56 : decode cX12_isMatch 56 = .ok (.iconst 1, 1) := by decide +kernel
theorem dX12_isMatch_57 : decode cX12_isMatch 57 = .ok (.goto 17, 3) := by decide +kernel
theorem dX12_isMatch_60 : decode cX12_isMatch 60 = .ok (.iconst 0, 1) := by decide +kernel
theorem dX12_isMatch_61 : decode cX12_isMatch 61 = .ok (.goto 13, 3) := by decide +kernel
theorem dX12_isMatch_64 : decode cX12_isMatch 64 = .ok (.aload_n 0, 1) := by decide +kernel
theorem dX12_isMatch_65 : decode cX12_isMatch 65 = .ok (.iload_n 1, 1) := by decide +kernel
theorem dX12_isMatch_66 : decode cX12_isMatch 66 = .ok (.iload 4, 2) := by decide +kernel
theorem dX12_isMatch_68 : decode cX12_isMatch 68 = .ok (.iadd, 1) := by decide +kernel
theorem dX12_isMatch_69 : decode cX12_isMatch 69 = .ok (.iload 4, 2) := by decide +kernel
theorem dX12_isMatch_71 : decode cX12_isMatch 71 = .ok (.invokevirtual 306, 3) := by decide +kernel
theorem dX12_isMatch_74 : decode cX12_isMatch 74 = .ok (.istore_n 3, 1) := by decide +kernel
theorem dX12_isMatch_75 : decode cX12_isMatch 75 = .ok (.iinc 4 1, 3) := by decide +kernel
theorem dX12_isMatch_78 : decode cX12_isMatch 78 = .ok (.goto (-56), 3) := by decide +kernel
theorem dX12_isMatch_81 : decode cX12_isMatch 81 = .ok (.iload_n 3, 1) := by decide +kernel
theorem dX12_isMatch_82 : decode cX12_isMatch 82 = .ok (.ireturn, 1) := by decide +kernel
set_option maxRecDepth 100000 in
theorem t_X12_isMatch_22 (G : MG) (hG : (g_l G).stackTraces = false) (d : Nat) (hd : 4 ≤ d)   (σ : MsSt)  : ∀ (n : Nat) (l0 : Nat) (l1 : Int32) (l2 : Int32) (l3 : Int32) (l4 : Int32) (h0 : ms_kd l0 = 13), TrO G mX12_isMatch d 0 0 0 0 (ms_ki σ) 22 [(0, .ref l0), (1, .int l1), (2, .int l2), (3, .int l3), (4, .int l4)] [] σ (f_X12_isMatch_22 σ n l0 l1 l2 l3 l4) := by
  intro n
  induction n with
  | zero => exact fun _ _ _ _ _ _ => tr_none
  | succ n ih =>
    intro l0 l1 l2 l3 l4 h0
    show TrO G mX12_isMatch d 0 0 0 0 (ms_ki σ) 22 [(0, .ref l0), (1, .int l1), (2, .int l2), (3, .int l3), (4, .int l4)] [] σ (if l4 < (ms_i σ l0 23) then if l3 = 0 then (ms_bz l3).bind fun v2 => some v2 else if l2 = 0 then (f_X12_isSameCluster σ l0 (l1 + l4) l4).bind fun v3 => (f_X12_isMatch_22 σ n) l0 l1 l2 v3 (l4 + 1) else (f_X12_baseOf σ l0 (l1 + l4)).bind fun v4 => (f_X12_otherBase σ l0 l4).bind fun v5 => if v4 = v5 then (f_X12_isMatch_22 σ n) l0 l1 l2 1 (l4 + 1) else (f_X12_isMatch_22 σ n) l0 l1 l2 0 (l4 + 1) else (ms_bz l3).bind fun v1 => some v1)
    refine tr_iload (i := 4) dX12_isMatch_22 rfl ?_
    refine tr_aload_n (i := 0) dX12_isMatch_24 rfl ?_
    refine tr_getI 12 h0 fl_X12_293 (by decide +kernel) dX12_isMatch_25 ?_
    refine tr_icge (o := none) (tgt := 81) dX12_isMatch_28 (by decide) ?_ ?_
    · refine tr_iload_n (i := 3) dX12_isMatch_81 rfl ?_
      exact tr_bret rfl rfl rfl (by decide) (by decide) dX12_isMatch_82
    · refine tr_iload_n (i := 3) dX12_isMatch_31 rfl ?_
      refine tr_ifeq (o := none) (tgt := 81) dX12_isMatch_32 (by decide) ?_ ?_
      · refine tr_iload_n (i := 3) dX12_isMatch_81 rfl ?_
        exact tr_bret rfl rfl rfl (by decide) (by decide) dX12_isMatch_82
      · refine tr_iload_n (i := 2) dX12_isMatch_35 rfl ?_
        refine tr_ifeq (o := none) (tgt := 64) dX12_isMatch_36 (by decide) ?_ ?_
        · refine tr_aload_n (i := 0) dX12_isMatch_64 rfl ?_
          refine tr_iload_n (i := 1) dX12_isMatch_65 rfl ?_
          refine tr_iload (i := 4) dX12_isMatch_66 rfl ?_
          refine tr_iadd dX12_isMatch_68 ?_
          refine tr_iload (i := 4) dX12_isMatch_69 rfl ?_
          refine tr_c_i (ms_cV (rest := []) (al := [.int (l1 + l4), .int l4]) 12 (sp_X12_isSameCluster G hG (d - 1) (by omega) σ l0 (l1 + l4) l4 h0) h0 (by decide +kernel) kl_X12_306 fv_X12_isSameCluster dX12_isMatch_71 (show _ = some 2 by decide +kernel) (by omega) (Nat.le_of_ble_eq_true rfl) (by decide) (by decide)) (fun v3 => ?_)
          refine tr_istore_n (lv' := [(0, .ref l0), (1, .int l1), (2, .int l2), (3, .int v3), (4, .int l4)]) [1, 2, 3, 0, 4] dX12_isMatch_74 (by decide) rfl ?_
          refine tr_iinc (k := 4) (v := (l4 + 1)) (lv' := [(0, .ref l0), (1, .int l1), (2, .int l2), (3, .int v3), (4, .int (l4 + 1))]) [1, 2, 3, 4, 0] dX12_isMatch_75 rfl rfl (by decide) rfl ?_
          refine tr_goto (tgt := 22) dX12_isMatch_78 (by decide) ?_
          exact (fun y0 y1 y2 y3 y4 g0 => ih y0 y1 y2 y3 y4 g0) l0 l1 l2 v3 (l4 + 1) h0
        · refine tr_aload_n (i := 0) dX12_isMatch_39 rfl ?_
          refine tr_iload_n (i := 1) dX12_isMatch_40 rfl ?_
          refine tr_iload (i := 4) dX12_isMatch_41 rfl ?_
          refine tr_iadd dX12_isMatch_43 ?_
          refine tr_c_i (ms_cV (rest := []) (al := [.int (l1 + l4)]) 12 (sp_X12_baseOf G hG (d - 1) (by omega) σ l0 (l1 + l4) h0) h0 (by decide +kernel) kl_X12_171 fv_X12_baseOf dX12_isMatch_44 (show _ = some 1 by decide +kernel) (by omega) (Nat.le_of_ble_eq_true rfl) (by decide) (by decide)) (fun v4 => ?_)
          refine tr_aload_n (i := 0) dX12_isMatch_47 rfl ?_
          refine tr_iload (i := 4) dX12_isMatch_48 rfl ?_
          refine tr_c_i (ms_cV (rest := [.int v4]) (al := [.int l4]) 12 (sp_X12_otherBase G hG (d - 1) (by omega) σ l0 l4 h0) h0 (by decide +kernel) kl_X12_303 fv_X12_otherBase dX12_isMatch_50 (show _ = some 1 by decide +kernel) (by omega) (Nat.le_of_ble_eq_true rfl) (by decide) (by decide)) (fun v5 => ?_)
          refine tr_icne (o := none) (tgt := 60) dX12_isMatch_53 (by decide) ?_ ?_
          · refine tr_iconst (v := 0) dX12_isMatch_60 (by decide +kernel) ?_
            refine tr_goto (tgt := 74) dX12_isMatch_61 (by decide) ?_
            refine tr_istore_n (lv' := [(0, .ref l0), (1, .int l1), (2, .int l2), (3, .int 0), (4, .int l4)]) [1, 2, 3, 0, 4] dX12_isMatch_74 (by decide) rfl ?_
            refine tr_iinc (k := 4) (v := (l4 + 1)) (lv' := [(0, .ref l0), (1, .int l1), (2, .int l2), (3, .int 0), (4, .int (l4 + 1))]) [1, 2, 3, 4, 0] dX12_isMatch_75 rfl rfl (by decide) rfl ?_
            refine tr_goto (tgt := 22) dX12_isMatch_78 (by decide) ?_
            exact (fun y0 y1 y2 y3 y4 g0 => ih y0 y1 y2 y3 y4 g0) l0 l1 l2 0 (l4 + 1) h0
          · refine tr_iconst (v := 1) dX12_isMatch_56 (by decide +kernel) ?_
            refine tr_goto (tgt := 74) dX12_isMatch_57 (by decide) ?_
            refine tr_istore_n (lv' := [(0, .ref l0), (1, .int l1), (2, .int l2), (3, .int 1), (4, .int l4)]) [1, 2, 3, 0, 4] dX12_isMatch_74 (by decide) rfl ?_
            refine tr_iinc (k := 4) (v := (l4 + 1)) (lv' := [(0, .ref l0), (1, .int l1), (2, .int l2), (3, .int 1), (4, .int (l4 + 1))]) [1, 2, 3, 4, 0] dX12_isMatch_75 rfl rfl (by decide) rfl ?_
            refine tr_goto (tgt := 22) dX12_isMatch_78 (by decide) ?_
            exact (fun y0 y1 y2 y3 y4 g0 => ih y0 y1 y2 y3 y4 g0) l0 l1 l2 1 (l4 + 1) h0
set_option maxRecDepth 100000 in
theorem sp_X12_isMatch (G : MG) (hG : (g_l G).stackTraces = false) (d : Nat) (hd : 4 ≤ d)   (σ : MsSt) (l0 : Nat) (l1 : Int32) (l2 : Int32) (h0 : ms_kd l0 = 13) : MsSpec G mX12_isMatch d 0 0 [.ref l0, .int l1, .int l2] σ (ms_ki σ) (f_X12_isMatch σ l0 l1 l2) := by
  refine ms_start (by decide +kernel) rfl rfl (Nat.le_of_ble_eq_true rfl) ?_
  show TrO G mX12_isMatch d 0 0 0 0 (ms_ki σ) 0 [(0, .ref l0), (1, .int l1), (2, .int l2)] [] σ (if (ms_i σ l0 17) < (l1 + (ms_i σ l0 23)) then f_X12_isMatch_22 σ ms_fuel l0 l1 l2 0 0 else f_X12_isMatch_22 σ ms_fuel l0 l1 l2 1 0)
  refine tr_iload_n (i := 1) dX12_isMatch_0 rfl ?_
  refine tr_aload_n (i := 0) dX12_isMatch_1 rfl ?_
  refine tr_getI 12 h0 fl_X12_293 (by decide +kernel) dX12_isMatch_2 ?_
  refine tr_iadd dX12_isMatch_5 ?_
  refine tr_aload_n (i := 0) dX12_isMatch_6 rfl ?_
  refine tr_getI 12 h0 fl_X12_168 (by decide +kernel) dX12_isMatch_7 ?_
  refine tr_icgt (o := none) (tgt := 17) dX12_isMatch_10 (by decide) ?_ ?_
  · refine tr_iconst (v := 0) dX12_isMatch_17 (by decide +kernel) ?_
    refine tr_istore_n (lv' := [(0, .ref l0), (1, .int l1), (2, .int l2), (3, .int 0)]) [1, 2, 3, 0] dX12_isMatch_18 (by decide) rfl ?_
    refine tr_iconst (v := 0) dX12_isMatch_19 (by decide +kernel) ?_
    refine tr_istore (lv' := [(0, .ref l0), (1, .int l1), (2, .int l2), (3, .int 0), (4, .int 0)]) [1, 2, 3, 4, 0] dX12_isMatch_20 (by decide) rfl ?_
    exact t_X12_isMatch_22 G hG d hd σ ms_fuel l0 l1 l2 0 0 h0
  · refine tr_iconst (v := 1) dX12_isMatch_13 (by decide +kernel) ?_
    refine tr_goto (tgt := 18) dX12_isMatch_14 (by decide) ?_
    refine tr_istore_n (lv' := [(0, .ref l0), (1, .int l1), (2, .int l2), (3, .int 1)]) [1, 2, 3, 0] dX12_isMatch_18 (by decide) rfl ?_
    refine tr_iconst (v := 0) dX12_isMatch_19 (by decide +kernel) ?_
    refine tr_istore (lv' := [(0, .ref l0), (1, .int l1), (2, .int l2), (3, .int 1), (4, .int 0)]) [1, 2, 3, 4, 0] dX12_isMatch_20 (by decide) rfl ?_
    exact t_X12_isMatch_22 G hG d hd σ ms_fuel l0 l1 l2 1 0 h0
theorem dX12_noPattern_0 : decode cX12_noPattern 0 = .ok (.aload_n 0, 1) := by decide +kernel
theorem dX12_noPattern_1 : decode cX12_noPattern 1 = .ok (.aload_n 0, 1) := by decide +kernel
theorem dX12_noPattern_2 : decode cX12_noPattern 2 = .ok (.iload_n 1, 1) := by decide +kernel
theorem dX12_noPattern_3 : decode cX12_noPattern 3 = .ok (.invokevirtual 118, 3) := by decide +kernel
theorem dX12_noPattern_6 : decode cX12_noPattern 6 = .ok (.ifCond .eq 26, 3) := by decide +kernel
theorem dX12_noPattern_9 : decode cX12_noPattern 9 = .ok (.aload_n 0, 1) := by decide +kernel
theorem dX12_noPattern_10 : decode cX12_noPattern 10 = .ok (.iload_n 2, 1) := by decide +kernel
theorem dX12_noPattern_11 : decode cX12_noPattern 11 = .ok (.invokevirtual 118, 3) := by decide +kernel
theorem dX12_noPattern_14 : decode cX12_noPattern 14 = .ok (.ifCond .eq 18, 3) := by decide +kernel
theorem dX12_noPattern_17 : decode cX12_noPattern 17 = .ok (.aload_n 0, 1) := by decide +kernel
theorem dX12_noPattern_18 : decode cX12_noPattern 18 = .ok (.getfield 9, 3) := by decide +kernel
theorem dX12_noPattern_21 : decode cX12_noPattern 21 = .ok (.iconst 3, 1) := by decide +kernel
theorem dX12_noPattern_22 : decode cX12_noPattern 22 = .ok (.iload_n 2, 1) := by decide +kernel
theorem dX12_noPattern_23 : decode cX12_noPattern 23 = .ok (.iadd, 1) := by decide +kernel
theorem dX12_noPattern_24 : decode cX12_noPattern 24 = .ok (.iaload, 1) := by decide +kernel
theorem dX12_noPattern_25 : decode cX12_noPattern 25 = .ok (.ifCond .le 7, 3) := by decide +kernel
theorem dX12_noPattern_28 : decode cX12_noPattern 28 = .ok (.iconst 0, 1) := by decide +kernel
theorem dX12_noPattern_29 : decode cX12_noPattern 29 = .ok (.goto 4, 3) := by decide +kernel
theorem dX12_noPattern_32 : decode cX12_noPattern 32 = .ok (.iconst 1, 1) := by decide +kernel
theorem dX12_noPattern_33 : decode cX12_noPattern 33 = .ok (.putfield 107, 3) := by decide +kernel
theorem dX12_noPattern_36 : decode cX12_noPattern 36 = .ok (.aload_n 0, 1) := by decide +kernel
theorem dX12_noPattern_37 : decode cX12_noPattern 37 = .ok (.getfield 107, 3) := by decide +kernel
theorem dX12_noPattern_40 : decode cX12_noPattern 40 = .ok (.ifCond .eq 7, 3) := by decide +kernel
theorem dX12_noPattern_43 : decode cX12_noPattern 43 = .ok (.iconst 1, 1) := by decide +kernel
theorem dX12_noPattern_44 : decode cX12_noPattern 44 = .ok (.goto 4, 3) := by decide +kernel
theorem dX12_noPattern_47 : decode cX12_noPattern 47 = .ok (.iconst 0, 1) := by decide +kernel
theorem dX12_noPattern_48 : decode cX12_noPattern 48 = .ok (.ireturn, 1) := by decide +kernel
set_option maxRecDepth 100000 in
theorem t_X12_noPattern_32 (G : MG) (hG : (g_l G).stackTraces = false) (d : Nat) (hd : 2 ≤ d)    (σ : MsSt) (l0 : Nat) (t0 : Nat) (h0 : ms_kd l0 = 13) (ht0 : ms_kd t0 = 13) : TrO G mX12_noPattern d 0 0 0 0 ms_wi 32 [(0, .ref l0)] [.ref t0] σ (f_X12_noPattern_32 σ l0 t0) := by
  show TrO G mX12_noPattern d 0 0 0 0 ms_wi 32 [(0, .ref l0)] [.ref t0] σ (ms_nm (ms_si σ t0 7 1) fun s2 => if (ms_i s2 l0 7) = 0 then some (0, s2) else some (1, s2))
  refine tr_iconst (v := 1) dX12_noPattern_32 (by decide +kernel) ?_
  refine tr_putI 12 ht0 fl_X12_107 (by decide +kernel) dX12_noPattern_33 ?_
  refine ms_ltS (fun s2 => ?_)
  refine tr_aload_n (i := 0) dX12_noPattern_36 rfl ?_
  refine tr_getI 12 h0 fl_X12_107 (by decide +kernel) dX12_noPattern_37 ?_
  refine tr_ifeq (o := none) (tgt := 47) dX12_noPattern_40 (by decide) ?_ ?_
  · refine tr_iconst (v := 0) dX12_noPattern_47 (by decide +kernel) ?_
    exact tr_zret rfl (by decide +kernel) rfl (by decide) (by decide) dX12_noPattern_48
  · refine tr_iconst (v := 1) dX12_noPattern_43 (by decide +kernel) ?_
    refine tr_goto (tgt := 48) dX12_noPattern_44 (by decide) ?_
    exact tr_zret rfl (by decide +kernel) rfl (by decide) (by decide) dX12_noPattern_48
set_option maxRecDepth 100000 in
theorem sp_X12_noPattern (G : MG) (hG : (g_l G).stackTraces = false) (d : Nat) (hd : 2 ≤ d)   (σ : MsSt) (l0 : Nat) (l1 : Int32) (l2 : Int32) (h0 : ms_kd l0 = 13) : MsSpec G mX12_noPattern d 0 0 [.ref l0, .int l1, .int l2] σ ms_wi (f_X12_noPattern σ l0 l1 l2) := by
  refine ms_start (by decide +kernel) rfl rfl (Nat.le_of_ble_eq_true rfl) ?_
  show TrO G mX12_noPattern d 0 0 0 0 ms_wi 0 [(0, .ref l0), (1, .int l1), (2, .int l2)] [] σ ((f_X12_isLine σ l0 l1).bind fun v1 => if v1 = 0 then f_X12_noPattern_32 σ l0 l0 else (f_X12_isLine σ l0 l2).bind fun v3 => if v3 = 0 then f_X12_noPattern_32 σ l0 l0 else (ms_ald σ (ms_rf l0 0) (3 + l2)).bind fun v4 => if 0 < v4 then ms_nm (ms_si σ l0 7 0) fun s5 => if (ms_i s5 l0 7) = 0 then some (0, s5) else some (1, s5) else f_X12_noPattern_32 σ l0 l0)
  refine tr_aload_n (i := 0) dX12_noPattern_0 rfl ?_
  refine tr_aload_n (i := 0) dX12_noPattern_1 rfl ?_
  refine tr_iload_n (i := 1) dX12_noPattern_2 rfl ?_
  refine tr_c_i (ms_cV (rest := [.ref l0]) (al := [.int l1]) 12 (sp_X12_isLine G hG (d - 1) (by omega) σ l0 l1 h0) h0 (by decide +kernel) kl_X12_118 fv_X12_isLine dX12_noPattern_3 (show _ = some 1 by decide +kernel) (by omega) (Nat.le_of_ble_eq_true rfl) (by decide) (by decide)) (fun v1 => ?_)
  refine tr_ifeq (o := none) (tgt := 32) dX12_noPattern_6 (by decide) ?_ ?_
  · refine tr_weak [0] (lv' := [(0, .ref l0)]) rfl ?_
    exact t_X12_noPattern_32 G hG d hd σ l0 l0 h0 h0
  · refine tr_aload_n (i := 0) dX12_noPattern_9 rfl ?_
    refine tr_iload_n (i := 2) dX12_noPattern_10 rfl ?_
    refine tr_c_i (ms_cV (rest := [.ref l0]) (al := [.int l2]) 12 (sp_X12_isLine G hG (d - 1) (by omega) σ l0 l2 h0) h0 (by decide +kernel) kl_X12_118 fv_X12_isLine dX12_noPattern_11 (show _ = some 1 by decide +kernel) (by omega) (Nat.le_of_ble_eq_true rfl) (by decide) (by decide)) (fun v3 => ?_)
    refine tr_ifeq (o := none) (tgt := 32) dX12_noPattern_14 (by decide) ?_ ?_
    · refine tr_weak [0] (lv' := [(0, .ref l0)]) rfl ?_
      exact t_X12_noPattern_32 G hG d hd σ l0 l0 h0 h0
    · refine tr_aload_n (i := 0) dX12_noPattern_17 rfl ?_
      refine tr_getR 12 h0 fl_X12_9 (by decide +kernel) dX12_noPattern_18 ?_
      refine tr_iconst (v := 3) dX12_noPattern_21 (by decide +kernel) ?_
      refine tr_iload_n (i := 2) dX12_noPattern_22 rfl ?_
      refine tr_iadd dX12_noPattern_23 ?_
      refine tr_ald (rk_12_0 h0) dX12_noPattern_24 (fun v4 => ?_)
      refine tr_ifle (o := none) (tgt := 32) dX12_noPattern_25 (by decide) ?_ ?_
      · refine tr_weak [0] (lv' := [(0, .ref l0)]) rfl ?_
        exact t_X12_noPattern_32 G hG d hd σ l0 l0 h0 h0
      · refine tr_iconst (v := 0) dX12_noPattern_28 (by decide +kernel) ?_
        refine tr_goto (tgt := 33) dX12_noPattern_29 (by decide) ?_
        refine tr_putI 12 h0 fl_X12_107 (by decide +kernel) dX12_noPattern_33 ?_
        refine ms_ltS (fun s5 => ?_)
        refine tr_aload_n (i := 0) dX12_noPattern_36 rfl ?_
        refine tr_getI 12 h0 fl_X12_107 (by decide +kernel) dX12_noPattern_37 ?_
        refine tr_ifeq (o := none) (tgt := 47) dX12_noPattern_40 (by decide) ?_ ?_
        · refine tr_iconst (v := 0) dX12_noPattern_47 (by decide +kernel) ?_
          exact tr_zret rfl (by decide +kernel) rfl (by decide) (by decide) dX12_noPattern_48
        · refine tr_iconst (v := 1) dX12_noPattern_43 (by decide +kernel) ?_
          refine tr_goto (tgt := 48) dX12_noPattern_44 (by decide) ?_
          exact tr_zret rfl (by decide +kernel) rfl (by decide) (by decide) dX12_noPattern_48
theorem dX12_matches_0 : decode cX12_matches 0 = .ok (.aload_n 0, 1) := by decide +kernel
theorem dX12_matches_1 : decode cX12_matches 1 = .ok (.iload_n 1, 1) := by decide +kernel
theorem dX12_matches_2 : decode cX12_matches 2 = .ok (.iload_n 2, 1) := by decide +kernel
theorem dX12_matches_3 : decode cX12_matches 3 = .ok (.invokevirtual 309, 3) := by decide +kernel
theorem dX12_matches_6 : decode cX12_matches 6 = .ok (.ifCond .eq 5, 3) := by decide +kernel
theorem dX12_matches_9 : decode cX12_matches 9 = .ok (.iconst 0, 1) := by decide +kernel
theorem dX12_matches_10 : decode cX12_matches 10 = .ok (.ireturn, 1) := by decide +kernel
theorem dX12_matches_11 : decode cX12_matches 11 = .ok (.aload_n 0, 1) := by decide +kernel
theorem dX12_matches_12 : decode cX12_matches 12 = .ok (.iload_n 1, 1) := by decide +kernel
theorem dX12_matches_13 : decode cX12_matches 13 = .ok (.iload_n 2, 1) := by decide +kernel
theorem dX12_matches_14 : decode cX12_matches 14 = .ok (.invokevirtual 299, 3) := by decide +kernel
theorem dX12_matches_17 : decode cX12_matches 17 = .ok (.iconst 0, 1) := by decide +kernel
theorem dX12_matches_18 : decode cX12_matches 18 = .ok (.istore 4, 2) := by decide +kernel
theorem dX12_matches_20 : decode cX12_matches 20 = .ok (.iconst 0, 1) := by decide +kernel
theorem dX12_matches_21 : decode cX12_matches 21 = .ok (.istore 5, 2) := by decide +kernel
theorem dX12_matches_23 : decode cX12_matches 23 = .ok (.iload 5, 2) := by decide +kernel
theorem dX12_matches_25 : decode cX12_matches 25 = .ok (.aload_n 0, 1) := by decide +kernel
theorem dX12_matches_26 : decode cX12_matches 26 = .ok (.getfield 168, 3) := by decide +kernel
theorem dX12_matches_29 : decode cX12_matches 29 = .ok (.if_icmp .ge 29, 3) := by decide +kernel
theorem dX12_matches_32 : decode cX12_matches 32 = .ok (.iload 4, 2) := by decide +kernel
theorem dX12_matches_34 : decode cX12_matches 34 = .ok (.aload_n 0, 1) := by decide +kernel
theorem dX12_matches_35 : decode cX12_matches 35 = .ok (.iload 5, 2) := by decide +kernel
theorem dX12_matches_37 : decode cX12_matches 37 = .ok (.iload_n 3, 1) := by decide +kernel
theorem dX12_matches_38 : decode cX12_matches 38 = .ok (.invokevirtual 312, 3) := by decide +kernel
theorem dX12_matches_41 : decode cX12_matches 41 = .ok (.ifCond .eq 7, 3) := by decide +kernel
theorem dX12_matches_44 : decode cX12_matches 44 = .ok (.iconst 1, 1) := by decide +kernel
theorem dX12_matches_45 : decode cX12_matches 45 = .ok (.goto 4, 3) := by decide +kernel
theorem dX12_matches_48 : decode cX12_matches 48 = .ok (.iconst 0, 1) := by decide +kernel
theorem dX12_matches_49 : decode cX12_matches 49 = .ok (.iadd, 1) := by decide +kernel
theorem dX12_matches_50 : decode cX12_matches 50 = .ok (.istore 4, 2) := by decide +kernel
theorem dX12_matches_52 : decode cX12_matches 52 = .ok (.iinc 5 1, 3) := by decide +kernel
theorem dX12_matches_55 : decode cX12_matches 55 = .ok (.goto (-32), 3) := by decide +kernel
theorem dX12_matches_58 : decode cX12_matches 58 = .ok (.iload 4, 2) := by decide +kernel
theorem dX12_matches_60 : decode cX12_matches 60 = .ok (.ireturn, 1) := by decide +kernel
set_option maxRecDepth 100000 in
theorem t_X12_matches_23 (G : MG) (hG : (g_l G).stackTraces = false) (d : Nat) (hd : 8 ≤ d)    : ∀ (n : Nat) (σ : MsSt) (l0 : Nat) (l3 : Int32) (l4 : Int32) (l5 : Int32) (h0 : ms_kd l0 = 13), TrO G mX12_matches d 0 0 0 0 ms_wi 23 [(0, .ref l0), (3, .int l3), (4, .int l4), (5, .int l5)] [] σ (f_X12_matches_23 n σ l0 l3 l4 l5) := by
  intro n
  induction n with
  | zero => exact fun _ _ _ _ _ _ => tr_none
  | succ n ih =>
    intro σ l0 l3 l4 l5 h0
    show TrO G mX12_matches d 0 0 0 0 ms_wi 23 [(0, .ref l0), (3, .int l3), (4, .int l4), (5, .int l5)] [] σ (if l5 < (ms_i σ l0 17) then (f_X12_isMatch σ l0 l5 l3).bind fun v4 => if v4 = 0 then (f_X12_matches_23 n) σ l0 l3 (l4 + 0) (l5 + 1) else (f_X12_matches_23 n) σ l0 l3 (l4 + 1) (l5 + 1) else some (l4, σ))
    refine tr_iload (i := 3) dX12_matches_23 rfl ?_
    refine tr_aload_n (i := 0) dX12_matches_25 rfl ?_
    refine tr_getI 12 h0 fl_X12_168 (by decide +kernel) dX12_matches_26 ?_
    refine tr_icge (o := none) (tgt := 58) dX12_matches_29 (by decide) ?_ ?_
    · refine tr_iload (i := 2) dX12_matches_58 rfl ?_
      exact tr_iret rfl rfl (by decide) (by decide) dX12_matches_60
    · refine tr_iload (i := 2) dX12_matches_32 rfl ?_
      refine tr_aload_n (i := 0) dX12_matches_34 rfl ?_
      refine tr_iload (i := 3) dX12_matches_35 rfl ?_
      refine tr_iload_n (i := 1) dX12_matches_37 rfl ?_
      refine tr_c_i (ms_cV (rest := [.int l4]) (al := [.int l5, .int l3]) 12 (sp_X12_isMatch G hG (d - 1) (by omega) σ l0 l5 l3 h0) h0 (by decide +kernel) kl_X12_312 fv_X12_isMatch dX12_matches_38 (show _ = some 2 by decide +kernel) (by omega) (Nat.le_of_ble_eq_true rfl) (by decide) (by decide)) (fun v4 => ?_)
      refine tr_ifeq (o := none) (tgt := 48) dX12_matches_41 (by decide) ?_ ?_
      · refine tr_iconst (v := 0) dX12_matches_48 (by decide +kernel) ?_
        refine tr_iadd dX12_matches_49 ?_
        refine tr_istore (lv' := [(0, .ref l0), (3, .int l3), (4, .int (l4 + 0)), (5, .int l5)]) [1, 2, 0, 3] dX12_matches_50 (by decide) rfl ?_
        refine tr_iinc (k := 3) (v := (l5 + 1)) (lv' := [(0, .ref l0), (3, .int l3), (4, .int (l4 + 0)), (5, .int (l5 + 1))]) [1, 2, 3, 0] dX12_matches_52 rfl rfl (by decide) rfl ?_
        refine tr_goto (tgt := 23) dX12_matches_55 (by decide) ?_
        exact (fun s y0 y1 y2 y3 g0 => ih s y0 y1 y2 y3 g0) σ l0 l3 (l4 + 0) (l5 + 1) h0
      · refine tr_iconst (v := 1) dX12_matches_44 (by decide +kernel) ?_
        refine tr_goto (tgt := 49) dX12_matches_45 (by decide) ?_
        refine tr_iadd dX12_matches_49 ?_
        refine tr_istore (lv' := [(0, .ref l0), (3, .int l3), (4, .int (l4 + 1)), (5, .int l5)]) [1, 2, 0, 3] dX12_matches_50 (by decide) rfl ?_
        refine tr_iinc (k := 3) (v := (l5 + 1)) (lv' := [(0, .ref l0), (3, .int l3), (4, .int (l4 + 1)), (5, .int (l5 + 1))]) [1, 2, 3, 0] dX12_matches_52 rfl rfl (by decide) rfl ?_
        refine tr_goto (tgt := 23) dX12_matches_55 (by decide) ?_
        exact (fun s y0 y1 y2 y3 g0 => ih s y0 y1 y2 y3 g0) σ l0 l3 (l4 + 1) (l5 + 1) h0
set_option maxRecDepth 100000 in
theorem sp_X12_matches (G : MG) (hG : (g_l G).stackTraces = false) (d : Nat) (hd : 8 ≤ d)   (σ : MsSt) (l0 : Nat) (l1 : Int32) (l2 : Int32) (l3 : Int32) (h0 : ms_kd l0 = 13) : MsSpec G mX12_matches d 0 0 [.ref l0, .int l1, .int l2, .int l3] σ ms_wi (f_X12_matches σ l0 l1 l2 l3) := by
  refine ms_start (by decide +kernel) rfl rfl (Nat.le_of_ble_eq_true rfl) ?_
  show TrO G mX12_matches d 0 0 0 0 ms_wi 0 [(0, .ref l0), (1, .int l1), (2, .int l2), (3, .int l3)] [] σ (ms_b2 (f_X12_noPattern σ l0 l1 l2) fun v1 s2 => if v1 = 0 then (f_X12_layTwo s2 l0 l1 l2).bind fun s3 => f_X12_matches_23 ms_fuel s3 l0 l3 0 0 else some (0, s2))
  refine tr_aload_n (i := 0) dX12_matches_0 rfl ?_
  refine tr_iload_n (i := 1) dX12_matches_1 rfl ?_
  refine tr_iload_n (i := 2) dX12_matches_2 rfl ?_
  refine tr_d_wi (ms_cV (rest := []) (al := [.int l1, .int l2]) 12 (sp_X12_noPattern G hG (d - 1) (by omega) σ l0 l1 l2 h0) h0 (by decide +kernel) kl_X12_309 fv_X12_noPattern dX12_matches_3 (show _ = some 2 by decide +kernel) (by omega) (Nat.le_of_ble_eq_true rfl) (by decide) (by decide)) (fun v1 s2 => ?_)
  refine tr_ifeq (o := none) (tgt := 11) dX12_matches_6 (by decide) ?_ ?_
  · refine tr_aload_n (i := 0) dX12_matches_11 rfl ?_
    refine tr_iload_n (i := 1) dX12_matches_12 rfl ?_
    refine tr_iload_n (i := 2) dX12_matches_13 rfl ?_
    refine tr_c_wv (ms_cV (rest := []) (al := [.int l1, .int l2]) 12 (sp_X12_layTwo G hG (d - 1) (by omega) s2 l0 l1 l2 h0) h0 (by decide +kernel) kl_X12_299 fv_X12_layTwo dX12_matches_14 (show _ = some 2 by decide +kernel) (by omega) (Nat.le_of_ble_eq_true rfl) (by decide) (by decide)) (fun s3 => ?_)
    refine tr_iconst (v := 0) dX12_matches_17 (by decide +kernel) ?_
    refine tr_istore (lv' := [(0, .ref l0), (3, .int l3), (4, .int 0)]) [1, 4, 0] dX12_matches_18 (by decide) rfl ?_
    refine tr_iconst (v := 0) dX12_matches_20 (by decide +kernel) ?_
    refine tr_istore (lv' := [(0, .ref l0), (3, .int l3), (4, .int 0), (5, .int 0)]) [1, 2, 3, 0] dX12_matches_21 (by decide) rfl ?_
    exact t_X12_matches_23 G hG d hd ms_fuel s3 l0 l3 0 0 h0
  · refine tr_iconst (v := 0) dX12_matches_9 (by decide +kernel) ?_
    exact tr_iret rfl rfl (by decide) (by decide) dX12_matches_10
theorem dX12_match_0 : decode cX12_match 0 = .ok (.aload_n 0, 1) := by decide +kernel
theorem dX12_match_1 : decode cX12_match 1 = .ok (.iload_n 1, 1) := by decide +kernel
theorem dX12_match_2 : decode cX12_match 2 = .ok (.iload_n 2, 1) := by decide +kernel
theorem dX12_match_3 : decode cX12_match 3 = .ok (.invokevirtual 309, 3) := by decide +kernel
theorem dX12_match_6 : decode cX12_match 6 = .ok (.ifCond .eq 5, 3) := by decide +kernel
theorem dX12_match_9 : decode cX12_match 9 = .ok (.iconst 0, 1) := by decide +kernel
theorem dX12_match_10 : decode cX12_match 10 = .ok (.ireturn, 1) := by decide +kernel
theorem dX12_match_11 : decode cX12_match 11 = .ok (.aload_n 0, 1) := by decide +kernel
theorem dX12_match_12 : decode cX12_match 12 = .ok (.iload_n 1, 1) := by decide +kernel
theorem dX12_match_13 : decode cX12_match 13 = .ok (.iload_n 2, 1) := by decide +kernel
theorem dX12_match_14 : decode cX12_match 14 = .ok (.invokevirtual 299, 3) := by decide +kernel
theorem dX12_match_17 : decode cX12_match 17 = .ok (.iload 4, 2) := by decide +kernel
theorem dX12_match_19 : decode cX12_match 19 = .ok (.istore 5, 2) := by decide +kernel
theorem dX12_match_21 : decode cX12_match 21 = .ok (.iconst 0, 1) := by decide +kernel
theorem dX12_match_22 : decode cX12_match 22 = .ok (.istore 6, 2) := by decide +kernel
theorem dX12_match_24 : decode cX12_match 24 = .ok (.iload 6, 2) := by decide +kernel
theorem dX12_match_26 : decode cX12_match 26 = .ok (.aload_n 0, 1) := by decide +kernel
theorem dX12_match_27 : decode cX12_match 27 = .ok (.getfield 168, 3) := by decide +kernel
theorem dX12_match_30 : decode cX12_match 30 = .ok (.if_icmp .ge 35, 3) := by decide +kernel
theorem dX12_match_33 : decode cX12_match 33 = .ok (.iload 5, 2) := by decide +kernel
theorem dX12_match_35 : decode cX12_match 35 = .ok (.ifCond .lt 30, 3) := by decide +kernel
theorem dX12_match_38 : decode cX12_match 38 = .ok (.aload_n 0, 1) := by decide +kernel
theorem dX12_match_39 : decode cX12_match 39 = .ok (.iload 6, 2) := by decide +kernel
theorem dX12_match_41 : decode cX12_match 41 = .ok (.iload_n 3, 1) := by decide +kernel
theorem dX12_match_42 : decode cX12_match 42 = .ok (.invokevirtual 312, 3) := by decide +kernel
theorem dX12_match_45 : decode cX12_match 45 = .ok (.ifCond .eq 14, 3) := by decide +kernel
theorem dX12_match_48 : decode cX12_match 48 = .ok (.iload 5, 2) := by decide +kernel
theorem dX12_match_50 : decode cX12_match 50 = .ok (.ifCond .ne 6, 3) := by decide +kernel
theorem dX12_match_53 : decode cX12_match 53 = .ok (.iload 6, 2) := by decide +kernel
theorem dX12_match_55 : decode cX12_match 55 = .ok (.ireturn, 1) := by decide +kernel
theorem dX12_match_56 : decode cX12_match 56 = .ok (.iinc 5 (-1), 3) := by decide +kernel
theorem dX12_match_59 : decode cX12_match 59 = .ok (.iinc 6 1, 3) := by decide +kernel
theorem dX12_match_62 : decode cX12_match 62 = .ok (.goto (-38), 3) := by decide +kernel
theorem dX12_match_65 : decode cX12_match 65 = .ok (.aload_n 0, 1) := by decide +kernel
theorem dX12_match_66 : decode cX12_match 66 = .ok (.iconst 1, 1) := by decide +kernel
theorem dX12_match_67 : decode cX12_match 67 = .ok (.invokevirtual 230, 3) := by decide +kernel
theorem dX12_match_70 : decode cX12_match 70 = .ok (.ireturn, 1) := by decide +kernel
set_option maxRecDepth 100000 in
theorem t_X12_match_24 (G : MG) (hG : (g_l G).stackTraces = false) (d : Nat) (hd : 8 ≤ d)    : ∀ (n : Nat) (σ : MsSt) (l0 : Nat) (l3 : Int32) (l5 : Int32) (l6 : Int32) (h0 : ms_kd l0 = 13), TrO G mX12_match d 0 0 0 0 ms_wi 24 [(0, .ref l0), (3, .int l3), (5, .int l5), (6, .int l6)] [] σ (f_X12_match_24 n σ l0 l3 l5 l6) := by
  intro n
  induction n with
  | zero => exact fun _ _ _ _ _ _ => tr_none
  | succ n ih =>
    intro σ l0 l3 l5 l6 h0
    show TrO G mX12_match d 0 0 0 0 ms_wi 24 [(0, .ref l0), (3, .int l3), (5, .int l5), (6, .int l6)] [] σ (if l6 < (ms_i σ l0 17) then if l5 < 0 then ms_b2 (f_X12_raise σ l0 1) fun v6 s7 => some (v6, s7) else (f_X12_isMatch σ l0 l6 l3).bind fun v8 => if v8 = 0 then (f_X12_match_24 n) σ l0 l3 l5 (l6 + 1) else if l5 = 0 then some (l6, σ) else (f_X12_match_24 n) σ l0 l3 (l5 + (-1)) (l6 + 1) else ms_b2 (f_X12_raise σ l0 1) fun v4 s5 => some (v4, s5))
    refine tr_iload (i := 3) dX12_match_24 rfl ?_
    refine tr_aload_n (i := 0) dX12_match_26 rfl ?_
    refine tr_getI 12 h0 fl_X12_168 (by decide +kernel) dX12_match_27 ?_
    refine tr_icge (o := none) (tgt := 65) dX12_match_30 (by decide) ?_ ?_
    · refine tr_aload_n (i := 0) dX12_match_65 rfl ?_
      refine tr_iconst (v := 1) dX12_match_66 (by decide +kernel) ?_
      refine tr_d_wi (ms_cV (rest := []) (al := [.int 1]) 12 (sp_X12_raise G hG (d - 1) (by omega) σ l0 1 h0) h0 (by decide +kernel) kl_X12_230 fv_X12_raise dX12_match_67 (show _ = some 1 by decide +kernel) (by omega) (Nat.le_of_ble_eq_true rfl) (by decide) (by decide)) (fun v4 s5 => ?_)
      exact tr_iret rfl rfl (by decide) (by decide) dX12_match_70
    · refine tr_iload (i := 2) dX12_match_33 rfl ?_
      refine tr_iflt (o := none) (tgt := 65) dX12_match_35 (by decide) ?_ ?_
      · refine tr_aload_n (i := 0) dX12_match_65 rfl ?_
        refine tr_iconst (v := 1) dX12_match_66 (by decide +kernel) ?_
        refine tr_d_wi (ms_cV (rest := []) (al := [.int 1]) 12 (sp_X12_raise G hG (d - 1) (by omega) σ l0 1 h0) h0 (by decide +kernel) kl_X12_230 fv_X12_raise dX12_match_67 (show _ = some 1 by decide +kernel) (by omega) (Nat.le_of_ble_eq_true rfl) (by decide) (by decide)) (fun v6 s7 => ?_)
        exact tr_iret rfl rfl (by decide) (by decide) dX12_match_70
      · refine tr_aload_n (i := 0) dX12_match_38 rfl ?_
        refine tr_iload (i := 3) dX12_match_39 rfl ?_
        refine tr_iload_n (i := 1) dX12_match_41 rfl ?_
        refine tr_c_i (ms_cV (rest := []) (al := [.int l6, .int l3]) 12 (sp_X12_isMatch G hG (d - 1) (by omega) σ l0 l6 l3 h0) h0 (by decide +kernel) kl_X12_312 fv_X12_isMatch dX12_match_42 (show _ = some 2 by decide +kernel) (by omega) (Nat.le_of_ble_eq_true rfl) (by decide) (by decide)) (fun v8 => ?_)
        refine tr_ifeq (o := none) (tgt := 59) dX12_match_45 (by decide) ?_ ?_
        · refine tr_iinc (k := 3) (v := (l6 + 1)) (lv' := [(0, .ref l0), (3, .int l3), (5, .int l5), (6, .int (l6 + 1))]) [1, 2, 3, 0] dX12_match_59 rfl rfl (by decide) rfl ?_
          refine tr_goto (tgt := 24) dX12_match_62 (by decide) ?_
          exact (fun s y0 y1 y2 y3 g0 => ih s y0 y1 y2 y3 g0) σ l0 l3 l5 (l6 + 1) h0
        · refine tr_iload (i := 2) dX12_match_48 rfl ?_
          refine tr_ifne (o := none) (tgt := 56) dX12_match_50 (by decide) ?_ ?_
          · refine tr_iinc (k := 2) (v := (l5 + (-1))) (lv' := [(0, .ref l0), (3, .int l3), (5, .int (l5 + (-1))), (6, .int l6)]) [1, 2, 0, 3] dX12_match_56 rfl rfl (by decide) rfl ?_
            refine tr_iinc (k := 3) (v := (l6 + 1)) (lv' := [(0, .ref l0), (3, .int l3), (5, .int (l5 + (-1))), (6, .int (l6 + 1))]) [1, 2, 3, 0] dX12_match_59 rfl rfl (by decide) rfl ?_
            refine tr_goto (tgt := 24) dX12_match_62 (by decide) ?_
            exact (fun s y0 y1 y2 y3 g0 => ih s y0 y1 y2 y3 g0) σ l0 l3 (l5 + (-1)) (l6 + 1) h0
          · refine tr_iload (i := 3) dX12_match_53 rfl ?_
            exact tr_iret rfl rfl (by decide) (by decide) dX12_match_55
set_option maxRecDepth 100000 in
theorem sp_X12_match (G : MG) (hG : (g_l G).stackTraces = false) (d : Nat) (hd : 8 ≤ d)   (σ : MsSt) (l0 : Nat) (l1 : Int32) (l2 : Int32) (l3 : Int32) (l4 : Int32) (h0 : ms_kd l0 = 13) : MsSpec G mX12_match d 0 0 [.ref l0, .int l1, .int l2, .int l3, .int l4] σ ms_wi (f_X12_match σ l0 l1 l2 l3 l4) := by
  refine ms_start (by decide +kernel) rfl rfl (Nat.le_of_ble_eq_true rfl) ?_
  show TrO G mX12_match d 0 0 0 0 ms_wi 0 [(0, .ref l0), (1, .int l1), (2, .int l2), (3, .int l3), (4, .int l4)] [] σ (ms_b2 (f_X12_noPattern σ l0 l1 l2) fun v1 s2 => if v1 = 0 then (f_X12_layTwo s2 l0 l1 l2).bind fun s3 => f_X12_match_24 ms_fuel s3 l0 l3 l4 0 else some (0, s2))
  refine tr_aload_n (i := 0) dX12_match_0 rfl ?_
  refine tr_iload_n (i := 1) dX12_match_1 rfl ?_
  refine tr_iload_n (i := 2) dX12_match_2 rfl ?_
  refine tr_d_wi (ms_cV (rest := []) (al := [.int l1, .int l2]) 12 (sp_X12_noPattern G hG (d - 1) (by omega) σ l0 l1 l2 h0) h0 (by decide +kernel) kl_X12_309 fv_X12_noPattern dX12_match_3 (show _ = some 2 by decide +kernel) (by omega) (Nat.le_of_ble_eq_true rfl) (by decide) (by decide)) (fun v1 s2 => ?_)
  refine tr_ifeq (o := none) (tgt := 11) dX12_match_6 (by decide) ?_ ?_
  · refine tr_aload_n (i := 0) dX12_match_11 rfl ?_
    refine tr_iload_n (i := 1) dX12_match_12 rfl ?_
    refine tr_iload_n (i := 2) dX12_match_13 rfl ?_
    refine tr_c_wv (ms_cV (rest := []) (al := [.int l1, .int l2]) 12 (sp_X12_layTwo G hG (d - 1) (by omega) s2 l0 l1 l2 h0) h0 (by decide +kernel) kl_X12_299 fv_X12_layTwo dX12_match_14 (show _ = some 2 by decide +kernel) (by omega) (Nat.le_of_ble_eq_true rfl) (by decide) (by decide)) (fun s3 => ?_)
    refine tr_iload (i := 4) dX12_match_17 rfl ?_
    refine tr_istore (lv' := [(0, .ref l0), (3, .int l3), (5, .int l4)]) [1, 4, 0] dX12_match_19 (by decide) rfl ?_
    refine tr_iconst (v := 0) dX12_match_21 (by decide +kernel) ?_
    refine tr_istore (lv' := [(0, .ref l0), (3, .int l3), (5, .int l4), (6, .int 0)]) [1, 2, 3, 0] dX12_match_22 (by decide) rfl ?_
    exact t_X12_match_24 G hG d hd ms_fuel s3 l0 l3 l4 0 h0
  · refine tr_iconst (v := 0) dX12_match_9 (by decide +kernel) ?_
    exact tr_iret rfl rfl (by decide) (by decide) dX12_match_10
theorem dX12_saved_0 : decode cX12_saved 0 = .ok (.aload_n 0, 1) := by decide +kernel
theorem dX12_saved_1 : decode cX12_saved 1 = .ok (.aload_n 0, 1) := by decide +kernel
theorem dX12_saved_2 : decode cX12_saved 2 = .ok (.iload_n 1, 1) := by decide +kernel
theorem dX12_saved_3 : decode cX12_saved 3 = .ok (.invokevirtual 118, 3) := by decide +kernel
theorem dX12_saved_6 : decode cX12_saved 6 = .ok (.ifCond .eq 24, 3) := by decide +kernel
theorem dX12_saved_9 : decode cX12_saved 9 = .ok (.aload_n 0, 1) := by decide +kernel
theorem dX12_saved_10 : decode cX12_saved 10 = .ok (.iload_n 2, 1) := by decide +kernel
theorem dX12_saved_11 : decode cX12_saved 11 = .ok (.invokevirtual 122, 3) := by decide +kernel
theorem dX12_saved_14 : decode cX12_saved 14 = .ok (.ifCond .eq 16, 3) := by decide +kernel
theorem dX12_saved_17 : decode cX12_saved 17 = .ok (.aload_n 0, 1) := by decide +kernel
theorem dX12_saved_18 : decode cX12_saved 18 = .ok (.iload_n 2, 1) := by decide +kernel
theorem dX12_saved_19 : decode cX12_saved 19 = .ok (.iconst 2, 1) := by decide +kernel
theorem dX12_saved_20 : decode cX12_saved 20 = .ok (.invokevirtual 128, 3) := by decide +kernel
theorem dX12_saved_23 : decode cX12_saved 23 = .ok (.ifCond .eq 7, 3) := by decide +kernel
theorem dX12_saved_26 : decode cX12_saved 26 = .ok (.iconst 0, 1) := by decide +kernel
theorem dX12_saved_27 : decode cX12_saved 27 = .ok (.goto 4, 3) := by decide +kernel
theorem dX12_saved_30 : decode cX12_saved 30 = .ok (.iconst 1, 1) := by decide +kernel
theorem dX12_saved_31 : decode cX12_saved 31 = .ok (.putfield 107, 3) := by decide +kernel
theorem dX12_saved_34 : decode cX12_saved 34 = .ok (.aload_n 0, 1) := by decide +kernel
theorem dX12_saved_35 : decode cX12_saved 35 = .ok (.getfield 107, 3) := by decide +kernel
theorem dX12_saved_38 : decode cX12_saved 38 = .ok (.ifCond .eq 5, 3) := by decide +kernel
theorem dX12_saved_41 : decode cX12_saved 41 = .ok (.iconst 0, 1) := by decide +kernel
theorem dX12_saved_42 : decode cX12_saved 42 = .ok (.ireturn, 1) := by decide +kernel
theorem dX12_saved_43 : decode cX12_saved 43 = .ok (.aload_n 0, 1) := by decide +kernel
theorem dX12_saved_44 : decode cX12_saved 44 = .ok (.iload_n 1, 1) := by decide +kernel
theorem dX12_saved_45 : decode cX12_saved 45 = .ok (.invokevirtual 262, 3) := by decide +kernel
theorem dX12_saved_48 : decode cX12_saved 48 = .ok (.aload_n 0, 1) := by decide +kernel
theorem dX12_saved_49 : decode cX12_saved 49 = .ok (.getfield 155, 3) := by decide +kernel
theorem dX12_saved_52 : decode cX12_saved 52 = .ok (.istore_n 3, 1) := by decide +kernel
theorem dX12_saved_53 : decode cX12_saved 53 = .ok (.aload_n 0, 1) := by decide +kernel
theorem dX12_saved_54 : decode cX12_saved 54 = .ok (.getfield 9, 3) := by decide +kernel
theorem dX12_saved_57 : decode cX12_saved 57 = .ok (.iload_n 2, 1) := by decide +kernel
theorem dX12_saved_58 : decode cX12_saved 58 = .ok (.iconst 5, 1) := by decide +kernel
theorem dX12_saved_59 : decode cX12_saved 59 = .ok (.invokestatic 114, 3) := by decide +kernel
theorem dX12_saved_62 : decode cX12_saved 62 = .ok (.iaload, 1) := by decide +kernel
theorem dX12_saved_63 : decode cX12_saved 63 = .ok (.istore 4, 2) := by decide +kernel
theorem dX12_saved_65 : decode cX12_saved 65 = .ok (.aload_n 0, 1) := by decide +kernel
theorem dX12_saved_66 : decode cX12_saved 66 = .ok (.getfield 9, 3) := by decide +kernel
theorem dX12_saved_69 : decode cX12_saved 69 = .ok (.iload_n 2, 1) := by decide +kernel
theorem dX12_saved_70 : decode cX12_saved 70 = .ok (.iconst 5, 1) := by decide +kernel
theorem dX12_saved_71 : decode cX12_saved 71 = .ok (.invokestatic 114, 3) := by decide +kernel
theorem dX12_saved_74 : decode cX12_saved 74 = .ok (.iconst 0, 1) := by decide +kernel
theorem dX12_saved_75 : decode cX12_saved 75 = .ok (.iastore, 1) := by decide +kernel
theorem dX12_saved_76 : decode cX12_saved 76 = .ok (.aload_n 0, 1) := by decide +kernel
theorem dX12_saved_77 : decode cX12_saved 77 = .ok (.invokevirtual 165, 3) := by decide +kernel
theorem dX12_saved_80 : decode cX12_saved 80 = .ok (.aload_n 0, 1) := by decide +kernel
theorem dX12_saved_81 : decode cX12_saved 81 = .ok (.getfield 9, 3) := by decide +kernel
theorem dX12_saved_84 : decode cX12_saved 84 = .ok (.iload_n 2, 1) := by decide +kernel
theorem dX12_saved_85 : decode cX12_saved 85 = .ok (.iconst 5, 1) := by decide +kernel
theorem dX12_saved_86 : decode cX12_saved 86 = .ok (.invokestatic 114, 3) := by decide +kernel
theorem dX12_saved_89 : decode cX12_saved 89 = .ok (.iload 4, 2) := by decide +kernel
theorem dX12_saved_91 : decode cX12_saved 91 = .ok (.iastore, 1) := by decide +kernel
theorem dX12_saved_92 : decode cX12_saved 92 = .ok (.iload_n 3, 1) := by decide +kernel
theorem dX12_saved_93 : decode cX12_saved 93 = .ok (.aload_n 0, 1) := by decide +kernel
theorem dX12_saved_94 : decode cX12_saved 94 = .ok (.getfield 155, 3) := by decide +kernel
theorem dX12_saved_97 : decode cX12_saved 97 = .ok (.isub, 1) := by decide +kernel
theorem dX12_saved_98 : decode cX12_saved 98 = .ok (.ireturn, 1) := by decide +kernel
set_option maxRecDepth 100000 in
theorem t_X12_saved_31 (G : MG) (hG : (g_l G).stackTraces = false) (d : Nat) (hd : 7 ≤ d)    (σ : MsSt) (l0 : Nat) (l1 : Int32) (l2 : Int32) (t0 : Int32) (t1 : Nat) (h0 : ms_kd l0 = 13) (ht1 : ms_kd t1 = 13) : TrO G mX12_saved d 0 0 0 0 ms_wi 31 [(0, .ref l0), (1, .int l1), (2, .int l2)] [.int t0, .ref t1] σ (f_X12_saved_31 σ l0 l1 l2 t0 t1) := by
  show TrO G mX12_saved d 0 0 0 0 ms_wi 31 [(0, .ref l0), (1, .int l1), (2, .int l2)] [.int t0, .ref t1] σ (ms_nm (ms_si σ t1 7 t0) fun s2 => if (ms_i s2 l0 7) = 0 then (f_X12_layForms s2 l0 l1).bind fun s3 => (f_X12_of s3 l2 5).bind fun v4 => (ms_ald s3 (ms_rf l0 0) v4).bind fun v5 => (f_X12_of s3 l2 5).bind fun v6 => (ms_ast s3 (ms_rf l0 0) v6 0).bind fun s7 => (f_X12_layComposed s7 l0).bind fun s8 => (f_X12_of s8 l2 5).bind fun v9 => (ms_ast s8 (ms_rf l0 0) v9 v5).bind fun s10 => some (((ms_i s3 l0 15) - (ms_i s10 l0 15)), s10) else some (0, s2))
  refine tr_putI 12 ht1 fl_X12_107 (by decide +kernel) dX12_saved_31 ?_
  refine ms_ltS (fun s2 => ?_)
  refine tr_aload_n (i := 0) dX12_saved_34 rfl ?_
  refine tr_getI 12 h0 fl_X12_107 (by decide +kernel) dX12_saved_35 ?_
  refine tr_ifeq (o := none) (tgt := 43) dX12_saved_38 (by decide) ?_ ?_
  · refine tr_aload_n (i := 0) dX12_saved_43 rfl ?_
    refine tr_iload_n (i := 1) dX12_saved_44 rfl ?_
    refine tr_c_wv (ms_cV (rest := []) (al := [.int l1]) 12 (sp_X12_layForms G hG (d - 1) (by omega) s2 l0 l1 h0) h0 (by decide +kernel) kl_X12_262 fv_X12_layForms dX12_saved_45 (show _ = some 1 by decide +kernel) (by omega) (Nat.le_of_ble_eq_true rfl) (by decide) (by decide)) (fun s3 => ?_)
    refine tr_aload_n (i := 0) dX12_saved_48 rfl ?_
    refine tr_getI 12 h0 fl_X12_155 (by decide +kernel) dX12_saved_49 ?_
    refine tr_istore_n (lv' := [(0, .ref l0), (2, .int l2), (3, .int (ms_i s3 l0 15))]) [1, 3, 0] dX12_saved_52 (by decide) rfl ?_
    refine tr_aload_n (i := 0) dX12_saved_53 rfl ?_
    refine tr_getR 12 h0 fl_X12_9 (by decide +kernel) dX12_saved_54 ?_
    refine tr_iload_n (i := 1) dX12_saved_57 rfl ?_
    refine tr_iconst (v := 5) dX12_saved_58 (by decide +kernel) ?_
    refine tr_c_i (ms_cS (rest := [.ref (ms_rf l0 0)]) (al := [.int l2, .int 5]) (sp_X12_of G hG (d - 1) (by omega) s3 l2 5) kl_X12_114 fs_X12_of dX12_saved_59 (show _ = some 2 by decide +kernel) (by omega) (Nat.le_of_ble_eq_true rfl) (by decide) (by decide)) (fun v4 => ?_)
    refine tr_ald (rk_12_0 h0) dX12_saved_62 (fun v5 => ?_)
    refine tr_istore (lv' := [(0, .ref l0), (2, .int l2), (3, .int (ms_i s3 l0 15)), (4, .int v5)]) [1, 2, 3, 0] dX12_saved_63 (by decide) rfl ?_
    refine tr_aload_n (i := 0) dX12_saved_65 rfl ?_
    refine tr_getR 12 h0 fl_X12_9 (by decide +kernel) dX12_saved_66 ?_
    refine tr_iload_n (i := 1) dX12_saved_69 rfl ?_
    refine tr_iconst (v := 5) dX12_saved_70 (by decide +kernel) ?_
    refine tr_c_i (ms_cS (rest := [.ref (ms_rf l0 0)]) (al := [.int l2, .int 5]) (sp_X12_of G hG (d - 1) (by omega) s3 l2 5) kl_X12_114 fs_X12_of dX12_saved_71 (show _ = some 2 by decide +kernel) (by omega) (Nat.le_of_ble_eq_true rfl) (by decide) (by decide)) (fun v6 => ?_)
    refine tr_iconst (v := 0) dX12_saved_74 (by decide +kernel) ?_
    refine tr_ast (rk_12_0 h0) dX12_saved_75 (fun s7 => ?_)
    refine tr_aload_n (i := 0) dX12_saved_76 rfl ?_
    refine tr_c_wv (ms_cV (rest := []) (al := []) 12 (sp_X12_layComposed G hG (d - 1) (by omega) s7 l0 h0) h0 (by decide +kernel) kl_X12_165 fv_X12_layComposed dX12_saved_77 (show _ = some 0 by decide +kernel) (by omega) (Nat.le_of_ble_eq_true rfl) (by decide) (by decide)) (fun s8 => ?_)
    refine tr_aload_n (i := 0) dX12_saved_80 rfl ?_
    refine tr_getR 12 h0 fl_X12_9 (by decide +kernel) dX12_saved_81 ?_
    refine tr_iload_n (i := 1) dX12_saved_84 rfl ?_
    refine tr_iconst (v := 5) dX12_saved_85 (by decide +kernel) ?_
    refine tr_c_i (ms_cS (rest := [.ref (ms_rf l0 0)]) (al := [.int l2, .int 5]) (sp_X12_of G hG (d - 1) (by omega) s8 l2 5) kl_X12_114 fs_X12_of dX12_saved_86 (show _ = some 2 by decide +kernel) (by omega) (Nat.le_of_ble_eq_true rfl) (by decide) (by decide)) (fun v9 => ?_)
    refine tr_iload (i := 3) dX12_saved_89 rfl ?_
    refine tr_ast (rk_12_0 h0) dX12_saved_91 (fun s10 => ?_)
    refine tr_iload_n (i := 2) dX12_saved_92 rfl ?_
    refine tr_aload_n (i := 0) dX12_saved_93 rfl ?_
    refine tr_getI 12 h0 fl_X12_155 (by decide +kernel) dX12_saved_94 ?_
    refine tr_isub dX12_saved_97 ?_
    exact tr_iret rfl rfl (by decide) (by decide) dX12_saved_98
  · refine tr_iconst (v := 0) dX12_saved_41 (by decide +kernel) ?_
    exact tr_iret rfl rfl (by decide) (by decide) dX12_saved_42
set_option maxRecDepth 100000 in
theorem t_X12_saved_30 (G : MG) (hG : (g_l G).stackTraces = false) (d : Nat) (hd : 7 ≤ d)    (σ : MsSt) (l0 : Nat) (l1 : Int32) (l2 : Int32) (t0 : Nat) (h0 : ms_kd l0 = 13) (ht0 : ms_kd t0 = 13) : TrO G mX12_saved d 0 0 0 0 ms_wi 30 [(0, .ref l0), (1, .int l1), (2, .int l2)] [.ref t0] σ (f_X12_saved_30 σ l0 l1 l2 t0) := by
  show TrO G mX12_saved d 0 0 0 0 ms_wi 30 [(0, .ref l0), (1, .int l1), (2, .int l2)] [.ref t0] σ (f_X12_saved_31 σ l0 l1 l2 1 t0)
  refine tr_iconst (v := 1) dX12_saved_30 (by decide +kernel) ?_
  exact t_X12_saved_31 G hG d hd σ l0 l1 l2 1 t0 h0 ht0
set_option maxRecDepth 100000 in
theorem sp_X12_saved (G : MG) (hG : (g_l G).stackTraces = false) (d : Nat) (hd : 7 ≤ d)   (σ : MsSt) (l0 : Nat) (l1 : Int32) (l2 : Int32) (h0 : ms_kd l0 = 13) : MsSpec G mX12_saved d 0 0 [.ref l0, .int l1, .int l2] σ ms_wi (f_X12_saved σ l0 l1 l2) := by
  refine ms_start (by decide +kernel) rfl rfl (Nat.le_of_ble_eq_true rfl) ?_
  show TrO G mX12_saved d 0 0 0 0 ms_wi 0 [(0, .ref l0), (1, .int l1), (2, .int l2)] [] σ ((f_X12_isLine σ l0 l1).bind fun v1 => if v1 = 0 then f_X12_saved_30 σ l0 l1 l2 l0 else (f_X12_isSign σ l0 l2).bind fun v11 => if v11 = 0 then f_X12_saved_30 σ l0 l1 l2 l0 else (f_X12_isOfKind σ l0 l2 2).bind fun v12 => if v12 = 0 then f_X12_saved_30 σ l0 l1 l2 l0 else f_X12_saved_31 σ l0 l1 l2 0 l0)
  refine tr_aload_n (i := 0) dX12_saved_0 rfl ?_
  refine tr_aload_n (i := 0) dX12_saved_1 rfl ?_
  refine tr_iload_n (i := 1) dX12_saved_2 rfl ?_
  refine tr_c_i (ms_cV (rest := [.ref l0]) (al := [.int l1]) 12 (sp_X12_isLine G hG (d - 1) (by omega) σ l0 l1 h0) h0 (by decide +kernel) kl_X12_118 fv_X12_isLine dX12_saved_3 (show _ = some 1 by decide +kernel) (by omega) (Nat.le_of_ble_eq_true rfl) (by decide) (by decide)) (fun v1 => ?_)
  refine tr_ifeq (o := none) (tgt := 30) dX12_saved_6 (by decide) ?_ ?_
  · exact t_X12_saved_30 G hG d hd σ l0 l1 l2 l0 h0 h0
  · refine tr_aload_n (i := 0) dX12_saved_9 rfl ?_
    refine tr_iload_n (i := 2) dX12_saved_10 rfl ?_
    refine tr_c_i (ms_cV (rest := [.ref l0]) (al := [.int l2]) 12 (sp_X12_isSign G hG (d - 1) (by omega) σ l0 l2 h0) h0 (by decide +kernel) kl_X12_122 fv_X12_isSign dX12_saved_11 (show _ = some 1 by decide +kernel) (by omega) (Nat.le_of_ble_eq_true rfl) (by decide) (by decide)) (fun v11 => ?_)
    refine tr_ifeq (o := none) (tgt := 30) dX12_saved_14 (by decide) ?_ ?_
    · exact t_X12_saved_30 G hG d hd σ l0 l1 l2 l0 h0 h0
    · refine tr_aload_n (i := 0) dX12_saved_17 rfl ?_
      refine tr_iload_n (i := 2) dX12_saved_18 rfl ?_
      refine tr_iconst (v := 2) dX12_saved_19 (by decide +kernel) ?_
      refine tr_c_i (ms_cV (rest := [.ref l0]) (al := [.int l2, .int 2]) 12 (sp_X12_isOfKind G hG (d - 1) (by omega) σ l0 l2 2 h0) h0 (by decide +kernel) kl_X12_128 fv_X12_isOfKind dX12_saved_20 (show _ = some 2 by decide +kernel) (by omega) (Nat.le_of_ble_eq_true rfl) (by decide) (by decide)) (fun v12 => ?_)
      refine tr_ifeq (o := none) (tgt := 30) dX12_saved_23 (by decide) ?_ ?_
      · exact t_X12_saved_30 G hG d hd σ l0 l1 l2 l0 h0 h0
      · refine tr_iconst (v := 0) dX12_saved_26 (by decide +kernel) ?_
        refine tr_goto (tgt := 31) dX12_saved_27 (by decide) ?_
        exact t_X12_saved_31 G hG d hd σ l0 l1 l2 0 l0 h0 h0
theorem dX12_mayHave_0 : decode cX12_mayHave 0 = .ok (.iconst 0, 1) := by decide +kernel
theorem dX12_mayHave_1 : decode cX12_mayHave 1 = .ok (.istore_n 3, 1) := by decide +kernel
theorem dX12_mayHave_2 : decode cX12_mayHave 2 = .ok (.iload_n 3, 1) := by decide +kernel
theorem dX12_mayHave_3 : decode cX12_mayHave 3 = .ok (.aload_n 0, 1) := by decide +kernel
theorem dX12_mayHave_4 : decode cX12_mayHave 4 = .ok (.getfield 9, 3) := by decide +kernel
theorem dX12_mayHave_7 : decode cX12_mayHave 7 = .ok (.iconst 0, 1) := by decide +kernel
theorem dX12_mayHave_8 : decode cX12_mayHave 8 = .ok (.iaload, 1) := by decide +kernel
theorem dX12_mayHave_9 : decode cX12_mayHave 9 = .ok (.if_icmp .ge 63, 3) := by decide +kernel
theorem dX12_mayHave_12 : decode cX12_mayHave 12 = .ok (.iload_n 3, 1) := by decide +kernel
theorem dX12_mayHave_13 : decode cX12_mayHave 13 = .ok (.iload_n 1, 1) := by decide +kernel
theorem dX12_mayHave_14 : decode cX12_mayHave 14 = .ok (.if_icmp .eq 52, 3) := by decide +kernel
theorem dX12_mayHave_17 : decode cX12_mayHave 17 = .ok (.aload_n 0, 1) := by decide +kernel
theorem dX12_mayHave_18 : decode cX12_mayHave 18 = .ok (.iload_n 3, 1) := by decide +kernel
theorem dX12_mayHave_19 : decode cX12_mayHave 19 = .ok (.invokevirtual 135, 3) := by decide +kernel
theorem dX12_mayHave_22 : decode cX12_mayHave 22 = .ok (.ifCond .eq 44, 3) := by decide +kernel
theorem dX12_mayHave_25 : decode cX12_mayHave 25 = .ok (.aload_n 0, 1) := by decide +kernel
theorem dX12_mayHave_26 : decode cX12_mayHave 26 = .ok (.getfield 9, 3) := by decide +kernel
theorem dX12_mayHave_29 : decode cX12_mayHave 29 = .ok (.iload_n 3, 1) := by decide +kernel
theorem dX12_mayHave_30 : decode cX12_mayHave 30 = .ok (.iconst 1, 1) := by decide +kernel
theorem dX12_mayHave_31 : decode cX12_mayHave 31 = .ok (.invokestatic 114, 3) := by decide +kernel
theorem dX12_mayHave_34 : decode cX12_mayHave 34 = .ok (.iaload, 1) := by decide +kernel
theorem dX12_mayHave_35 : decode cX12_mayHave 35 = .ok (.iload_n 2, 1) := by decide +kernel
theorem dX12_mayHave_36 : decode cX12_mayHave 36 = .ok (.if_icmp .ne 30, 3) := by decide +kernel
theorem dX12_mayHave_39 : decode cX12_mayHave 39 = .ok (.aload_n 0, 1) := by decide +kernel
theorem dX12_mayHave_40 : decode cX12_mayHave 40 = .ok (.getfield 9, 3) := by decide +kernel
theorem dX12_mayHave_43 : decode cX12_mayHave 43 = .ok (.iload_n 3, 1) := by decide +kernel
theorem dX12_mayHave_44 : decode cX12_mayHave 44 = .ok (.bipush 6, 2) := by decide +kernel
theorem dX12_mayHave_46 : decode cX12_mayHave 46 = .ok (.invokestatic 114, 3) := by decide +kernel
theorem dX12_mayHave_49 : decode cX12_mayHave 49 = .ok (.iaload, 1) := by decide +kernel
theorem dX12_mayHave_50 : decode cX12_mayHave 50 = .ok (.aload_n 0, 1) := by decide +kernel
theorem dX12_mayHave_51 : decode cX12_mayHave 51 = .ok (.getfield 9, 3) := by decide +kernel
theorem dX12_mayHave_54 : decode cX12_mayHave 54 = .ok (.iload_n 1, 1) := by decide +kernel
theorem dX12_mayHave_55 : decode cX12_mayHave 55 = .ok (.bipush 6, 2) := by decide +kernel
theorem dX12_mayHave_57 : decode cX12_mayHave 57 = .ok (.invokestatic 114, 3) := by decide +kernel
theorem dX12_mayHave_60 : decode cX12_mayHave 60 = .ok (.iaload, 1) := by decide +kernel
theorem dX12_mayHave_61 : decode cX12_mayHave 61 = .ok (.if_icmp .eq 5, 3) := by decide +kernel
theorem dX12_mayHave_64 : decode cX12_mayHave 64 = .ok (.iconst 0, 1) := by decide +kernel
theorem dX12_mayHave_65 : decode cX12_mayHave 65 = .ok (.ireturn, 1) := by decide +kernel
theorem dX12_mayHave_66 : decode cX12_mayHave 66 = .ok (.iinc 3 1, 3) := by decide +kernel
theorem dX12_mayHave_69 : decode cX12_mayHave 69 = .ok (.goto (-67), 3) := by decide +kernel
theorem dX12_mayHave_72 : decode cX12_mayHave 72 = .ok (.iconst 1, 1) := by decide +kernel
theorem dX12_mayHave_73 : decode cX12_mayHave 73 = .ok (.ireturn, 1) := by decide +kernel
set_option maxRecDepth 100000 in
theorem t_X12_mayHave_2 (G : MG) (hG : (g_l G).stackTraces = false) (d : Nat) (hd : 3 ≤ d)   (σ : MsSt)  : ∀ (n : Nat) (l0 : Nat) (l1 : Int32) (l2 : Int32) (l3 : Int32) (h0 : ms_kd l0 = 13), TrO G mX12_mayHave d 0 0 0 0 (ms_ki σ) 2 [(0, .ref l0), (1, .int l1), (2, .int l2), (3, .int l3)] [] σ (f_X12_mayHave_2 σ n l0 l1 l2 l3) := by
  intro n
  induction n with
  | zero => exact fun _ _ _ _ _ => tr_none
  | succ n ih =>
    intro l0 l1 l2 l3 h0
    show TrO G mX12_mayHave d 0 0 0 0 (ms_ki σ) 2 [(0, .ref l0), (1, .int l1), (2, .int l2), (3, .int l3)] [] σ ((ms_ald σ (ms_rf l0 0) 0).bind fun v1 => if l3 < v1 then if l3 = l1 then (f_X12_mayHave_2 σ n) l0 l1 l2 (l3 + 1) else (f_X12_isMark σ l0 l3).bind fun v2 => if v2 = 0 then (f_X12_mayHave_2 σ n) l0 l1 l2 (l3 + 1) else (f_X12_of σ l3 1).bind fun v3 => (ms_ald σ (ms_rf l0 0) v3).bind fun v4 => if v4 = l2 then (f_X12_of σ l3 6).bind fun v5 => (ms_ald σ (ms_rf l0 0) v5).bind fun v6 => (f_X12_of σ l1 6).bind fun v7 => (ms_ald σ (ms_rf l0 0) v7).bind fun v8 => if v6 = v8 then (f_X12_mayHave_2 σ n) l0 l1 l2 (l3 + 1) else some 0 else (f_X12_mayHave_2 σ n) l0 l1 l2 (l3 + 1) else some 1)
    refine tr_iload_n (i := 3) dX12_mayHave_2 rfl ?_
    refine tr_aload_n (i := 0) dX12_mayHave_3 rfl ?_
    refine tr_getR 12 h0 fl_X12_9 (by decide +kernel) dX12_mayHave_4 ?_
    refine tr_iconst (v := 0) dX12_mayHave_7 (by decide +kernel) ?_
    refine tr_ald (rk_12_0 h0) dX12_mayHave_8 (fun v1 => ?_)
    refine tr_icge (o := none) (tgt := 72) dX12_mayHave_9 (by decide) ?_ ?_
    · refine tr_iconst (v := 1) dX12_mayHave_72 (by decide +kernel) ?_
      exact tr_zret rfl (by decide +kernel) rfl (by decide) (by decide) dX12_mayHave_73
    · refine tr_iload_n (i := 3) dX12_mayHave_12 rfl ?_
      refine tr_iload_n (i := 1) dX12_mayHave_13 rfl ?_
      refine tr_iceq (o := none) (tgt := 66) dX12_mayHave_14 (by decide) ?_ ?_
      · refine tr_iinc (k := 3) (v := (l3 + 1)) (lv' := [(0, .ref l0), (1, .int l1), (2, .int l2), (3, .int (l3 + 1))]) [1, 2, 3, 0] dX12_mayHave_66 rfl rfl (by decide) rfl ?_
        refine tr_goto (tgt := 2) dX12_mayHave_69 (by decide) ?_
        exact (fun y0 y1 y2 y3 g0 => ih y0 y1 y2 y3 g0) l0 l1 l2 (l3 + 1) h0
      · refine tr_aload_n (i := 0) dX12_mayHave_17 rfl ?_
        refine tr_iload_n (i := 3) dX12_mayHave_18 rfl ?_
        refine tr_c_i (ms_cV (rest := []) (al := [.int l3]) 12 (sp_X12_isMark G hG (d - 1) (by omega) σ l0 l3 h0) h0 (by decide +kernel) kl_X12_135 fv_X12_isMark dX12_mayHave_19 (show _ = some 1 by decide +kernel) (by omega) (Nat.le_of_ble_eq_true rfl) (by decide) (by decide)) (fun v2 => ?_)
        refine tr_ifeq (o := none) (tgt := 66) dX12_mayHave_22 (by decide) ?_ ?_
        · refine tr_iinc (k := 3) (v := (l3 + 1)) (lv' := [(0, .ref l0), (1, .int l1), (2, .int l2), (3, .int (l3 + 1))]) [1, 2, 3, 0] dX12_mayHave_66 rfl rfl (by decide) rfl ?_
          refine tr_goto (tgt := 2) dX12_mayHave_69 (by decide) ?_
          exact (fun y0 y1 y2 y3 g0 => ih y0 y1 y2 y3 g0) l0 l1 l2 (l3 + 1) h0
        · refine tr_aload_n (i := 0) dX12_mayHave_25 rfl ?_
          refine tr_getR 12 h0 fl_X12_9 (by decide +kernel) dX12_mayHave_26 ?_
          refine tr_iload_n (i := 3) dX12_mayHave_29 rfl ?_
          refine tr_iconst (v := 1) dX12_mayHave_30 (by decide +kernel) ?_
          refine tr_c_i (ms_cS (rest := [.ref (ms_rf l0 0)]) (al := [.int l3, .int 1]) (sp_X12_of G hG (d - 1) (by omega) σ l3 1) kl_X12_114 fs_X12_of dX12_mayHave_31 (show _ = some 2 by decide +kernel) (by omega) (Nat.le_of_ble_eq_true rfl) (by decide) (by decide)) (fun v3 => ?_)
          refine tr_ald (rk_12_0 h0) dX12_mayHave_34 (fun v4 => ?_)
          refine tr_iload_n (i := 2) dX12_mayHave_35 rfl ?_
          refine tr_icne (o := none) (tgt := 66) dX12_mayHave_36 (by decide) ?_ ?_
          · refine tr_iinc (k := 3) (v := (l3 + 1)) (lv' := [(0, .ref l0), (1, .int l1), (2, .int l2), (3, .int (l3 + 1))]) [1, 2, 3, 0] dX12_mayHave_66 rfl rfl (by decide) rfl ?_
            refine tr_goto (tgt := 2) dX12_mayHave_69 (by decide) ?_
            exact (fun y0 y1 y2 y3 g0 => ih y0 y1 y2 y3 g0) l0 l1 l2 (l3 + 1) h0
          · refine tr_aload_n (i := 0) dX12_mayHave_39 rfl ?_
            refine tr_getR 12 h0 fl_X12_9 (by decide +kernel) dX12_mayHave_40 ?_
            refine tr_iload_n (i := 3) dX12_mayHave_43 rfl ?_
            refine tr_bipush (v := 6) dX12_mayHave_44 (by decide +kernel) ?_
            refine tr_c_i (ms_cS (rest := [.ref (ms_rf l0 0)]) (al := [.int l3, .int 6]) (sp_X12_of G hG (d - 1) (by omega) σ l3 6) kl_X12_114 fs_X12_of dX12_mayHave_46 (show _ = some 2 by decide +kernel) (by omega) (Nat.le_of_ble_eq_true rfl) (by decide) (by decide)) (fun v5 => ?_)
            refine tr_ald (rk_12_0 h0) dX12_mayHave_49 (fun v6 => ?_)
            refine tr_aload_n (i := 0) dX12_mayHave_50 rfl ?_
            refine tr_getR 12 h0 fl_X12_9 (by decide +kernel) dX12_mayHave_51 ?_
            refine tr_iload_n (i := 1) dX12_mayHave_54 rfl ?_
            refine tr_bipush (v := 6) dX12_mayHave_55 (by decide +kernel) ?_
            refine tr_c_i (ms_cS (rest := [.ref (ms_rf l0 0), .int v6]) (al := [.int l1, .int 6]) (sp_X12_of G hG (d - 1) (by omega) σ l1 6) kl_X12_114 fs_X12_of dX12_mayHave_57 (show _ = some 2 by decide +kernel) (by omega) (Nat.le_of_ble_eq_true rfl) (by decide) (by decide)) (fun v7 => ?_)
            refine tr_ald (rk_12_0 h0) dX12_mayHave_60 (fun v8 => ?_)
            refine tr_iceq (o := none) (tgt := 66) dX12_mayHave_61 (by decide) ?_ ?_
            · refine tr_iinc (k := 3) (v := (l3 + 1)) (lv' := [(0, .ref l0), (1, .int l1), (2, .int l2), (3, .int (l3 + 1))]) [1, 2, 3, 0] dX12_mayHave_66 rfl rfl (by decide) rfl ?_
              refine tr_goto (tgt := 2) dX12_mayHave_69 (by decide) ?_
              exact (fun y0 y1 y2 y3 g0 => ih y0 y1 y2 y3 g0) l0 l1 l2 (l3 + 1) h0
            · refine tr_iconst (v := 0) dX12_mayHave_64 (by decide +kernel) ?_
              exact tr_zret rfl (by decide +kernel) rfl (by decide) (by decide) dX12_mayHave_65
set_option maxRecDepth 100000 in
theorem sp_X12_mayHave (G : MG) (hG : (g_l G).stackTraces = false) (d : Nat) (hd : 3 ≤ d)   (σ : MsSt) (l0 : Nat) (l1 : Int32) (l2 : Int32) (h0 : ms_kd l0 = 13) : MsSpec G mX12_mayHave d 0 0 [.ref l0, .int l1, .int l2] σ (ms_ki σ) (f_X12_mayHave σ l0 l1 l2) := by
  refine ms_start (by decide +kernel) rfl rfl (Nat.le_of_ble_eq_true rfl) ?_
  show TrO G mX12_mayHave d 0 0 0 0 (ms_ki σ) 0 [(0, .ref l0), (1, .int l1), (2, .int l2)] [] σ (f_X12_mayHave_2 σ ms_fuel l0 l1 l2 0)
  refine tr_iconst (v := 0) dX12_mayHave_0 (by decide +kernel) ?_
  refine tr_istore_n (lv' := [(0, .ref l0), (1, .int l1), (2, .int l2), (3, .int 0)]) [1, 2, 3, 0] dX12_mayHave_1 (by decide) rfl ?_
  exact t_X12_mayHave_2 G hG d hd σ ms_fuel l0 l1 l2 0 h0
theorem dX12_bestClass_0 : decode cX12_bestClass 0 = .ok (.aload_n 0, 1) := by decide +kernel
theorem dX12_bestClass_1 : decode cX12_bestClass 1 = .ok (.aload_n 0, 1) := by decide +kernel
theorem dX12_bestClass_2 : decode cX12_bestClass 2 = .ok (.iload_n 1, 1) := by decide +kernel
theorem dX12_bestClass_3 : decode cX12_bestClass 3 = .ok (.invokevirtual 118, 3) := by decide +kernel
theorem dX12_bestClass_6 : decode cX12_bestClass 6 = .ok (.ifCond .eq 23, 3) := by decide +kernel
theorem dX12_bestClass_9 : decode cX12_bestClass 9 = .ok (.aload_n 0, 1) := by decide +kernel
theorem dX12_bestClass_10 : decode cX12_bestClass 10 = .ok (.iload_n 2, 1) := by decide +kernel
theorem dX12_bestClass_11 : decode cX12_bestClass 11 = .ok (.invokevirtual 122, 3) := by decide +kernel
theorem dX12_bestClass_14 : decode cX12_bestClass 14 = .ok (.ifCond .eq 15, 3) := by decide +kernel
theorem dX12_bestClass_17 : decode cX12_bestClass 17 = .ok (.aload_n 0, 1) := by decide +kernel
theorem dX12_bestClass_18 : decode cX12_bestClass 18 = .ok (.iload_n 2, 1) := by decide +kernel
theorem dX12_bestClass_19 : decode cX12_bestClass 19 = .ok (.invokevirtual 135, 3) := by decide +kernel
theorem dX12_bestClass_22 : decode cX12_bestClass 22 = .ok (.ifCond .eq 7, 3) := by decide +kernel
theorem dX12_bestClass_25 : decode cX12_bestClass 25 = .ok (.iconst 0, 1) := by decide +kernel
theorem dX12_bestClass_26 : decode cX12_bestClass 26 = .ok (.goto 4, 3) := by decide +kernel
theorem dX12_bestClass_29 : decode cX12_bestClass 29 = .ok (.iconst 1, 1) := by decide +kernel
theorem dX12_bestClass_30 : decode cX12_bestClass 30 = .ok (.putfield 107, 3) := by decide +kernel
theorem dX12_bestClass_33 : decode cX12_bestClass 33 = .ok (.aload_n 0, 1) := by decide +kernel
theorem dX12_bestClass_34 : decode cX12_bestClass 34 = .ok (.getfield 107, 3) := by decide +kernel
theorem dX12_bestClass_37 : decode cX12_bestClass 37 = .ok (.ifCond .eq 5, 3) := by decide +kernel
theorem dX12_bestClass_40 : decode cX12_bestClass 40 = .ok (.iconst 0, 1) := by decide +kernel
theorem dX12_bestClass_41 : decode cX12_bestClass 41 = .ok (.ireturn, 1) := by decide +kernel
theorem dX12_bestClass_42 : decode cX12_bestClass 42 = .ok (.aload_n 0, 1) := by decide +kernel
theorem dX12_bestClass_43 : decode cX12_bestClass 43 = .ok (.getfield 9, 3) := by decide +kernel
theorem dX12_bestClass_46 : decode cX12_bestClass 46 = .ok (.iload_n 2, 1) := by decide +kernel
theorem dX12_bestClass_47 : decode cX12_bestClass 47 = .ok (.iconst 1, 1) := by decide +kernel
theorem dX12_bestClass_48 : decode cX12_bestClass 48 = .ok (.invokestatic 114, 3) := by decide +kernel
theorem dX12_bestClass_51 : decode cX12_bestClass 51 = .ok (.iaload, 1) := by decide +kernel
theorem dX12_bestClass_52 : decode cX12_bestClass 52 = .ok (.istore_n 3, 1) := by decide +kernel
theorem dX12_bestClass_53 : decode cX12_bestClass 53 = .ok (.iconst (-1), 1) := by decide +kernel
theorem dX12_bestClass_54 : decode cX12_bestClass 54 = .ok (.istore 4, 2) := by decide +kernel
theorem dX12_bestClass_56 : decode cX12_bestClass 56 = .ok (.iconst 0, 1) := by decide +kernel
theorem dX12_bestClass_57 : decode cX12_bestClass 57 = .ok (.istore 5, 2) := by decide +kernel
theorem dX12_bestClass_59 : decode cX12_bestClass 59 = .ok (.iconst 1, 1) := by decide +kernel
theorem dX12_bestClass_60 : decode cX12_bestClass 60 = .ok (.istore 6, 2) := by decide +kernel
theorem dX12_bestClass_62 : decode cX12_bestClass 62 = .ok (.iload 6, 2) := by decide +kernel
theorem dX12_bestClass_64 : decode cX12_bestClass 64 = .ok (.bipush 60, 2) := by decide +kernel
theorem dX12_bestClass_66 : decode cX12_bestClass 66 = .ok (.if_icmp .gt 64, 3) := by decide +kernel
theorem dX12_bestClass_69 : decode cX12_bestClass 69 = .ok (.aload_n 0, 1) := by decide +kernel
theorem dX12_bestClass_70 : decode cX12_bestClass 70 = .ok (.iload_n 2, 1) := by decide +kernel
theorem dX12_bestClass_71 : decode cX12_bestClass 71 = .ok (.iload 6, 2) := by decide +kernel
theorem dX12_bestClass_73 : decode cX12_bestClass 73 = .ok (.invokevirtual 316, 3) := by decide +kernel
theorem dX12_bestClass_76 : decode cX12_bestClass 76 = .ok (.ifCond .ne 6, 3) := by decide +kernel
theorem dX12_bestClass_79 : decode cX12_bestClass 79 = .ok (.goto 45, 3) := by decide +kernel
theorem dX12_bestClass_82 : decode cX12_bestClass 82 = .ok (.aload_n 0, 1) := by decide +kernel
theorem dX12_bestClass_83 : decode cX12_bestClass 83 = .ok (.getfield 9, 3) := by decide +kernel
theorem dX12_bestClass_86 : decode cX12_bestClass 86 = .ok (.iload_n 2, 1) := by decide +kernel
theorem dX12_bestClass_87 : decode cX12_bestClass 87 = .ok (.iconst 1, 1) := by decide +kernel
theorem dX12_bestClass_88 : decode cX12_bestClass 88 = .ok (.invokestatic 114, 3) := by decide +kernel
theorem dX12_bestClass_91 : decode cX12_bestClass 91 = .ok (.iload 6, 2) := by decide +kernel
theorem dX12_bestClass_93 : decode cX12_bestClass 93 = .ok (.iastore, 1) := by decide +kernel
theorem dX12_bestClass_94 : decode cX12_bestClass 94 = .ok (.aload_n 0, 1) := by decide +kernel
theorem dX12_bestClass_95 : decode cX12_bestClass 95 = .ok (.iload_n 1, 1) := by decide +kernel
theorem dX12_bestClass_96 : decode cX12_bestClass 96 = .ok (.invokevirtual 162, 3) := by decide +kernel
theorem dX12_bestClass_99 : decode cX12_bestClass 99 = .ok (.iload 4, 2) := by decide +kernel
theorem dX12_bestClass_101 : decode cX12_bestClass 101 = .ok (.iconst (-1), 1) := by decide +kernel
theorem dX12_bestClass_102 : decode cX12_bestClass 102 = .ok (.if_icmp .eq 12, 3) := by decide +kernel
theorem dX12_bestClass_105 : decode cX12_bestClass 105 = .ok (.aload_n 0, 1) := by decide +kernel
theorem dX12_bestClass_106 : decode cX12_bestClass 106 = .ok (.getfield 138, 3) := by decide +kernel
theorem dX12_bestClass_109 : decode cX12_bestClass 109 = .ok (.iload 5, 2) := by decide +kernel
theorem dX12_bestClass_111 : decode cX12_bestClass 111 = .ok (.if_icmp .ge 13, 3) := by decide +kernel
theorem dX12_bestClass_114 : decode cX12_bestClass 114 = .ok (.iload 6, 2) := by decide +kernel
theorem dX12_bestClass_116 : decode cX12_bestClass 116 = .ok (.istore 4, 2) := by decide +kernel
theorem dX12_bestClass_118 : decode cX12_bestClass 118 = .ok (.aload_n 0, 1) := by decide +kernel
theorem dX12_bestClass_119 : decode cX12_bestClass 119 = .ok (.getfield 138, 3) := by decide +kernel
theorem dX12_bestClass_122 : decode cX12_bestClass 122 = .ok (.istore 5, 2) := by decide +kernel
theorem dX12_bestClass_124 : decode cX12_bestClass 124 = .ok (.iinc 6 1, 3) := by decide +kernel
theorem dX12_bestClass_127 : decode cX12_bestClass 127 = .ok (.goto (-65), 3) := by decide +kernel
theorem dX12_bestClass_130 : decode cX12_bestClass 130 = .ok (.aload_n 0, 1) := by decide +kernel
theorem dX12_bestClass_131 : decode cX12_bestClass 131 = .ok (.getfield 9, 3) := by decide +kernel
theorem dX12_bestClass_134 : decode cX12_bestClass 134 = .ok (.iload_n 2, 1) := by decide +kernel
theorem dX12_bestClass_135 : decode cX12_bestClass 135 = .ok (.iconst 1, 1) := by decide +kernel
theorem dX12_bestClass_136 : decode cX12_bestClass 136 = .ok (.invokestatic 114, 3) := by decide +kernel
theorem dX12_bestClass_139 : decode cX12_bestClass 139 = .ok (.iload_n 3, 1) := by decide +kernel
theorem dX12_bestClass_140 : decode cX12_bestClass 140 = .ok (.iastore, 1) := by decide +kernel
theorem dX12_bestClass_141 : decode cX12_bestClass 141 = .ok (.iload 4, 2) := by decide +kernel
theorem dX12_bestClass_143 : decode cX12_bestClass 143 = .ok (.ireturn, 1) := by decide +kernel
set_option maxRecDepth 100000 in
theorem t_X12_bestClass_62 (G : MG) (hG : (g_l G).stackTraces = false) (d : Nat) (hd : 6 ≤ d)    : ∀ (n : Nat) (σ : MsSt) (l0 : Nat) (l1 : Int32) (l2 : Int32) (l3 : Int32) (l4 : Int32) (l5 : Int32) (l6 : Int32) (h0 : ms_kd l0 = 13), TrO G mX12_bestClass d 0 0 0 0 ms_wi 62 [(0, .ref l0), (1, .int l1), (2, .int l2), (3, .int l3), (4, .int l4), (5, .int l5), (6, .int l6)] [] σ (f_X12_bestClass_62 n σ l0 l1 l2 l3 l4 l5 l6) := by
  intro n
  induction n with
  | zero => exact fun _ _ _ _ _ _ _ _ _ => tr_none
  | succ n ih =>
    intro σ l0 l1 l2 l3 l4 l5 l6 h0
    show TrO G mX12_bestClass d 0 0 0 0 ms_wi 62 [(0, .ref l0), (1, .int l1), (2, .int l2), (3, .int l3), (4, .int l4), (5, .int l5), (6, .int l6)] [] σ (if 60 < l6 then (f_X12_of σ l2 1).bind fun v5 => (ms_ast σ (ms_rf l0 0) v5 l3).bind fun s6 => some (l4, s6) else (f_X12_mayHave σ l0 l2 l6).bind fun v7 => if v7 = 0 then (f_X12_bestClass_62 n) σ l0 l1 l2 l3 l4 l5 (l6 + 1) else (f_X12_of σ l2 1).bind fun v8 => (ms_ast σ (ms_rf l0 0) v8 l6).bind fun s9 => (f_X12_layDecomposed s9 l0 l1).bind fun s10 => if l4 = (-1) then (f_X12_bestClass_62 n) s10 l0 l1 l2 l3 l6 (ms_i s10 l0 12) (l6 + 1) else if (ms_i s10 l0 12) < l5 then (f_X12_bestClass_62 n) s10 l0 l1 l2 l3 l6 (ms_i s10 l0 12) (l6 + 1) else (f_X12_bestClass_62 n) s10 l0 l1 l2 l3 l4 l5 (l6 + 1))
    refine tr_iload (i := 6) dX12_bestClass_62 rfl ?_
    refine tr_bipush (v := 60) dX12_bestClass_64 (by decide +kernel) ?_
    refine tr_icgt (o := none) (tgt := 130) dX12_bestClass_66 (by decide) ?_ ?_
    · refine tr_aload_n (i := 0) dX12_bestClass_130 rfl ?_
      refine tr_getR 12 h0 fl_X12_9 (by decide +kernel) dX12_bestClass_131 ?_
      refine tr_iload_n (i := 2) dX12_bestClass_134 rfl ?_
      refine tr_iconst (v := 1) dX12_bestClass_135 (by decide +kernel) ?_
      refine tr_c_i (ms_cS (rest := [.ref (ms_rf l0 0)]) (al := [.int l2, .int 1]) (sp_X12_of G hG (d - 1) (by omega) σ l2 1) kl_X12_114 fs_X12_of dX12_bestClass_136 (show _ = some 2 by decide +kernel) (by omega) (Nat.le_of_ble_eq_true rfl) (by decide) (by decide)) (fun v5 => ?_)
      refine tr_iload_n (i := 3) dX12_bestClass_139 rfl ?_
      refine tr_ast (rk_12_0 h0) dX12_bestClass_140 (fun s6 => ?_)
      refine tr_iload (i := 4) dX12_bestClass_141 rfl ?_
      exact tr_iret rfl rfl (by decide) (by decide) dX12_bestClass_143
    · refine tr_aload_n (i := 0) dX12_bestClass_69 rfl ?_
      refine tr_iload_n (i := 2) dX12_bestClass_70 rfl ?_
      refine tr_iload (i := 6) dX12_bestClass_71 rfl ?_
      refine tr_c_i (ms_cV (rest := []) (al := [.int l2, .int l6]) 12 (sp_X12_mayHave G hG (d - 1) (by omega) σ l0 l2 l6 h0) h0 (by decide +kernel) kl_X12_316 fv_X12_mayHave dX12_bestClass_73 (show _ = some 2 by decide +kernel) (by omega) (Nat.le_of_ble_eq_true rfl) (by decide) (by decide)) (fun v7 => ?_)
      refine tr_ifne (o := none) (tgt := 82) dX12_bestClass_76 (by decide) ?_ ?_
      · refine tr_aload_n (i := 0) dX12_bestClass_82 rfl ?_
        refine tr_getR 12 h0 fl_X12_9 (by decide +kernel) dX12_bestClass_83 ?_
        refine tr_iload_n (i := 2) dX12_bestClass_86 rfl ?_
        refine tr_iconst (v := 1) dX12_bestClass_87 (by decide +kernel) ?_
        refine tr_c_i (ms_cS (rest := [.ref (ms_rf l0 0)]) (al := [.int l2, .int 1]) (sp_X12_of G hG (d - 1) (by omega) σ l2 1) kl_X12_114 fs_X12_of dX12_bestClass_88 (show _ = some 2 by decide +kernel) (by omega) (Nat.le_of_ble_eq_true rfl) (by decide) (by decide)) (fun v8 => ?_)
        refine tr_iload (i := 6) dX12_bestClass_91 rfl ?_
        refine tr_ast (rk_12_0 h0) dX12_bestClass_93 (fun s9 => ?_)
        refine tr_aload_n (i := 0) dX12_bestClass_94 rfl ?_
        refine tr_iload_n (i := 1) dX12_bestClass_95 rfl ?_
        refine tr_c_wv (ms_cV (rest := []) (al := [.int l1]) 12 (sp_X12_layDecomposed G hG (d - 1) (by omega) s9 l0 l1 h0) h0 (by decide +kernel) kl_X12_162 fv_X12_layDecomposed dX12_bestClass_96 (show _ = some 1 by decide +kernel) (by omega) (Nat.le_of_ble_eq_true rfl) (by decide) (by decide)) (fun s10 => ?_)
        refine tr_iload (i := 4) dX12_bestClass_99 rfl ?_
        refine tr_iconst (v := (-1)) dX12_bestClass_101 (by decide +kernel) ?_
        refine tr_iceq (o := none) (tgt := 114) dX12_bestClass_102 (by decide) ?_ ?_
        · refine tr_iload (i := 6) dX12_bestClass_114 rfl ?_
          refine tr_istore (lv' := [(0, .ref l0), (1, .int l1), (2, .int l2), (3, .int l3), (4, .int l6), (6, .int l6)]) [1, 2, 3, 4, 0, 6] dX12_bestClass_116 (by decide) rfl ?_
          refine tr_aload_n (i := 0) dX12_bestClass_118 rfl ?_
          refine tr_getI 12 h0 fl_X12_138 (by decide +kernel) dX12_bestClass_119 ?_
          refine tr_istore (lv' := [(0, .ref l0), (1, .int l1), (2, .int l2), (3, .int l3), (4, .int l6), (5, .int (ms_i s10 l0 12)), (6, .int l6)]) [1, 2, 3, 4, 5, 0, 6] dX12_bestClass_122 (by decide) rfl ?_
          refine tr_iinc (k := 6) (v := (l6 + 1)) (lv' := [(0, .ref l0), (1, .int l1), (2, .int l2), (3, .int l3), (4, .int l6), (5, .int (ms_i s10 l0 12)), (6, .int (l6 + 1))]) [1, 2, 3, 4, 5, 6, 0] dX12_bestClass_124 rfl rfl (by decide) rfl ?_
          refine tr_goto (tgt := 62) dX12_bestClass_127 (by decide) ?_
          exact (fun s y0 y1 y2 y3 y4 y5 y6 g0 => ih s y0 y1 y2 y3 y4 y5 y6 g0) s10 l0 l1 l2 l3 l6 (ms_i s10 l0 12) (l6 + 1) h0
        · refine tr_aload_n (i := 0) dX12_bestClass_105 rfl ?_
          refine tr_getI 12 h0 fl_X12_138 (by decide +kernel) dX12_bestClass_106 ?_
          refine tr_iload (i := 5) dX12_bestClass_109 rfl ?_
          refine tr_icge (o := none) (tgt := 124) dX12_bestClass_111 (by decide) ?_ ?_
          · refine tr_iinc (k := 6) (v := (l6 + 1)) (lv' := [(0, .ref l0), (1, .int l1), (2, .int l2), (3, .int l3), (4, .int l4), (5, .int l5), (6, .int (l6 + 1))]) [1, 2, 3, 4, 5, 6, 0] dX12_bestClass_124 rfl rfl (by decide) rfl ?_
            refine tr_goto (tgt := 62) dX12_bestClass_127 (by decide) ?_
            exact (fun s y0 y1 y2 y3 y4 y5 y6 g0 => ih s y0 y1 y2 y3 y4 y5 y6 g0) s10 l0 l1 l2 l3 l4 l5 (l6 + 1) h0
          · refine tr_iload (i := 6) dX12_bestClass_114 rfl ?_
            refine tr_istore (lv' := [(0, .ref l0), (1, .int l1), (2, .int l2), (3, .int l3), (4, .int l6), (6, .int l6)]) [1, 2, 3, 4, 0, 6] dX12_bestClass_116 (by decide) rfl ?_
            refine tr_aload_n (i := 0) dX12_bestClass_118 rfl ?_
            refine tr_getI 12 h0 fl_X12_138 (by decide +kernel) dX12_bestClass_119 ?_
            refine tr_istore (lv' := [(0, .ref l0), (1, .int l1), (2, .int l2), (3, .int l3), (4, .int l6), (5, .int (ms_i s10 l0 12)), (6, .int l6)]) [1, 2, 3, 4, 5, 0, 6] dX12_bestClass_122 (by decide) rfl ?_
            refine tr_iinc (k := 6) (v := (l6 + 1)) (lv' := [(0, .ref l0), (1, .int l1), (2, .int l2), (3, .int l3), (4, .int l6), (5, .int (ms_i s10 l0 12)), (6, .int (l6 + 1))]) [1, 2, 3, 4, 5, 6, 0] dX12_bestClass_124 rfl rfl (by decide) rfl ?_
            refine tr_goto (tgt := 62) dX12_bestClass_127 (by decide) ?_
            exact (fun s y0 y1 y2 y3 y4 y5 y6 g0 => ih s y0 y1 y2 y3 y4 y5 y6 g0) s10 l0 l1 l2 l3 l6 (ms_i s10 l0 12) (l6 + 1) h0
      · refine tr_goto (tgt := 124) dX12_bestClass_79 (by decide) ?_
        refine tr_iinc (k := 6) (v := (l6 + 1)) (lv' := [(0, .ref l0), (1, .int l1), (2, .int l2), (3, .int l3), (4, .int l4), (5, .int l5), (6, .int (l6 + 1))]) [1, 2, 3, 4, 5, 6, 0] dX12_bestClass_124 rfl rfl (by decide) rfl ?_
        refine tr_goto (tgt := 62) dX12_bestClass_127 (by decide) ?_
        exact (fun s y0 y1 y2 y3 y4 y5 y6 g0 => ih s y0 y1 y2 y3 y4 y5 y6 g0) σ l0 l1 l2 l3 l4 l5 (l6 + 1) h0
set_option maxRecDepth 100000 in
theorem t_X12_bestClass_30 (G : MG) (hG : (g_l G).stackTraces = false) (d : Nat) (hd : 6 ≤ d)    (σ : MsSt) (l0 : Nat) (l1 : Int32) (l2 : Int32) (t0 : Int32) (t1 : Nat) (h0 : ms_kd l0 = 13) (ht1 : ms_kd t1 = 13) : TrO G mX12_bestClass d 0 0 0 0 ms_wi 30 [(0, .ref l0), (1, .int l1), (2, .int l2)] [.int t0, .ref t1] σ (f_X12_bestClass_30 σ l0 l1 l2 t0 t1) := by
  show TrO G mX12_bestClass d 0 0 0 0 ms_wi 30 [(0, .ref l0), (1, .int l1), (2, .int l2)] [.int t0, .ref t1] σ (ms_nm (ms_si σ t1 7 t0) fun s2 => if (ms_i s2 l0 7) = 0 then (f_X12_of s2 l2 1).bind fun v3 => (ms_ald s2 (ms_rf l0 0) v3).bind fun v4 => f_X12_bestClass_62 ms_fuel s2 l0 l1 l2 v4 (-1) 0 1 else some (0, s2))
  refine tr_putI 12 ht1 fl_X12_107 (by decide +kernel) dX12_bestClass_30 ?_
  refine ms_ltS (fun s2 => ?_)
  refine tr_aload_n (i := 0) dX12_bestClass_33 rfl ?_
  refine tr_getI 12 h0 fl_X12_107 (by decide +kernel) dX12_bestClass_34 ?_
  refine tr_ifeq (o := none) (tgt := 42) dX12_bestClass_37 (by decide) ?_ ?_
  · refine tr_aload_n (i := 0) dX12_bestClass_42 rfl ?_
    refine tr_getR 12 h0 fl_X12_9 (by decide +kernel) dX12_bestClass_43 ?_
    refine tr_iload_n (i := 2) dX12_bestClass_46 rfl ?_
    refine tr_iconst (v := 1) dX12_bestClass_47 (by decide +kernel) ?_
    refine tr_c_i (ms_cS (rest := [.ref (ms_rf l0 0)]) (al := [.int l2, .int 1]) (sp_X12_of G hG (d - 1) (by omega) s2 l2 1) kl_X12_114 fs_X12_of dX12_bestClass_48 (show _ = some 2 by decide +kernel) (by omega) (Nat.le_of_ble_eq_true rfl) (by decide) (by decide)) (fun v3 => ?_)
    refine tr_ald (rk_12_0 h0) dX12_bestClass_51 (fun v4 => ?_)
    refine tr_istore_n (lv' := [(0, .ref l0), (1, .int l1), (2, .int l2), (3, .int v4)]) [1, 2, 3, 0] dX12_bestClass_52 (by decide) rfl ?_
    refine tr_iconst (v := (-1)) dX12_bestClass_53 (by decide +kernel) ?_
    refine tr_istore (lv' := [(0, .ref l0), (1, .int l1), (2, .int l2), (3, .int v4), (4, .int (-1))]) [1, 2, 3, 4, 0] dX12_bestClass_54 (by decide) rfl ?_
    refine tr_iconst (v := 0) dX12_bestClass_56 (by decide +kernel) ?_
    refine tr_istore (lv' := [(0, .ref l0), (1, .int l1), (2, .int l2), (3, .int v4), (4, .int (-1)), (5, .int 0)]) [1, 2, 3, 4, 5, 0] dX12_bestClass_57 (by decide) rfl ?_
    refine tr_iconst (v := 1) dX12_bestClass_59 (by decide +kernel) ?_
    refine tr_istore (lv' := [(0, .ref l0), (1, .int l1), (2, .int l2), (3, .int v4), (4, .int (-1)), (5, .int 0), (6, .int 1)]) [1, 2, 3, 4, 5, 6, 0] dX12_bestClass_60 (by decide) rfl ?_
    exact t_X12_bestClass_62 G hG d hd ms_fuel s2 l0 l1 l2 v4 (-1) 0 1 h0
  · refine tr_iconst (v := 0) dX12_bestClass_40 (by decide +kernel) ?_
    exact tr_iret rfl rfl (by decide) (by decide) dX12_bestClass_41
set_option maxRecDepth 100000 in
theorem t_X12_bestClass_29 (G : MG) (hG : (g_l G).stackTraces = false) (d : Nat) (hd : 6 ≤ d)    (σ : MsSt) (l0 : Nat) (l1 : Int32) (l2 : Int32) (t0 : Nat) (h0 : ms_kd l0 = 13) (ht0 : ms_kd t0 = 13) : TrO G mX12_bestClass d 0 0 0 0 ms_wi 29 [(0, .ref l0), (1, .int l1), (2, .int l2)] [.ref t0] σ (f_X12_bestClass_29 σ l0 l1 l2 t0) := by
  show TrO G mX12_bestClass d 0 0 0 0 ms_wi 29 [(0, .ref l0), (1, .int l1), (2, .int l2)] [.ref t0] σ (f_X12_bestClass_30 σ l0 l1 l2 1 t0)
  refine tr_iconst (v := 1) dX12_bestClass_29 (by decide +kernel) ?_
  exact t_X12_bestClass_30 G hG d hd σ l0 l1 l2 1 t0 h0 ht0
set_option maxRecDepth 100000 in
theorem sp_X12_bestClass (G : MG) (hG : (g_l G).stackTraces = false) (d : Nat) (hd : 6 ≤ d)   (σ : MsSt) (l0 : Nat) (l1 : Int32) (l2 : Int32) (h0 : ms_kd l0 = 13) : MsSpec G mX12_bestClass d 0 0 [.ref l0, .int l1, .int l2] σ ms_wi (f_X12_bestClass σ l0 l1 l2) := by
  refine ms_start (by decide +kernel) rfl rfl (Nat.le_of_ble_eq_true rfl) ?_
  show TrO G mX12_bestClass d 0 0 0 0 ms_wi 0 [(0, .ref l0), (1, .int l1), (2, .int l2)] [] σ ((f_X12_isLine σ l0 l1).bind fun v1 => if v1 = 0 then f_X12_bestClass_29 σ l0 l1 l2 l0 else (f_X12_isSign σ l0 l2).bind fun v11 => if v11 = 0 then f_X12_bestClass_29 σ l0 l1 l2 l0 else (f_X12_isMark σ l0 l2).bind fun v12 => if v12 = 0 then f_X12_bestClass_29 σ l0 l1 l2 l0 else f_X12_bestClass_30 σ l0 l1 l2 0 l0)
  refine tr_aload_n (i := 0) dX12_bestClass_0 rfl ?_
  refine tr_aload_n (i := 0) dX12_bestClass_1 rfl ?_
  refine tr_iload_n (i := 1) dX12_bestClass_2 rfl ?_
  refine tr_c_i (ms_cV (rest := [.ref l0]) (al := [.int l1]) 12 (sp_X12_isLine G hG (d - 1) (by omega) σ l0 l1 h0) h0 (by decide +kernel) kl_X12_118 fv_X12_isLine dX12_bestClass_3 (show _ = some 1 by decide +kernel) (by omega) (Nat.le_of_ble_eq_true rfl) (by decide) (by decide)) (fun v1 => ?_)
  refine tr_ifeq (o := none) (tgt := 29) dX12_bestClass_6 (by decide) ?_ ?_
  · exact t_X12_bestClass_29 G hG d hd σ l0 l1 l2 l0 h0 h0
  · refine tr_aload_n (i := 0) dX12_bestClass_9 rfl ?_
    refine tr_iload_n (i := 2) dX12_bestClass_10 rfl ?_
    refine tr_c_i (ms_cV (rest := [.ref l0]) (al := [.int l2]) 12 (sp_X12_isSign G hG (d - 1) (by omega) σ l0 l2 h0) h0 (by decide +kernel) kl_X12_122 fv_X12_isSign dX12_bestClass_11 (show _ = some 1 by decide +kernel) (by omega) (Nat.le_of_ble_eq_true rfl) (by decide) (by decide)) (fun v11 => ?_)
    refine tr_ifeq (o := none) (tgt := 29) dX12_bestClass_14 (by decide) ?_ ?_
    · exact t_X12_bestClass_29 G hG d hd σ l0 l1 l2 l0 h0 h0
    · refine tr_aload_n (i := 0) dX12_bestClass_17 rfl ?_
      refine tr_iload_n (i := 2) dX12_bestClass_18 rfl ?_
      refine tr_c_i (ms_cV (rest := [.ref l0]) (al := [.int l2]) 12 (sp_X12_isMark G hG (d - 1) (by omega) σ l0 l2 h0) h0 (by decide +kernel) kl_X12_135 fv_X12_isMark dX12_bestClass_19 (show _ = some 1 by decide +kernel) (by omega) (Nat.le_of_ble_eq_true rfl) (by decide) (by decide)) (fun v12 => ?_)
      refine tr_ifeq (o := none) (tgt := 29) dX12_bestClass_22 (by decide) ?_ ?_
      · exact t_X12_bestClass_29 G hG d hd σ l0 l1 l2 l0 h0 h0
      · refine tr_iconst (v := 0) dX12_bestClass_25 (by decide +kernel) ?_
        refine tr_goto (tgt := 30) dX12_bestClass_26 (by decide) ?_
        exact t_X12_bestClass_30 G hG d hd σ l0 l1 l2 0 l0 h0 h0
theorem dX12_meanMarks_0 : decode cX12_meanMarks 0 = .ok (.aload_n 0, 1) := by decide +kernel
theorem dX12_meanMarks_1 : decode cX12_meanMarks 1 = .ok (.iload_n 1, 1) := by decide +kernel
theorem dX12_meanMarks_2 : decode cX12_meanMarks 2 = .ok (.invokevirtual 247, 3) := by decide +kernel
theorem dX12_meanMarks_5 : decode cX12_meanMarks 5 = .ok (.ifCond .eq 5, 3) := by decide +kernel
theorem dX12_meanMarks_8 : decode cX12_meanMarks 8 = .ok (.dconst 0, 1) := by decide +kernel
theorem dX12_meanMarks_9 : decode cX12_meanMarks 9 = .ok (.dreturn, 1) := by decide +kernel
theorem dX12_meanMarks_10 : decode cX12_meanMarks 10 = .ok (.aload_n 0, 1) := by decide +kernel
theorem dX12_meanMarks_11 : decode cX12_meanMarks 11 = .ok (.iload_n 1, 1) := by decide +kernel
theorem dX12_meanMarks_12 : decode cX12_meanMarks 12 = .ok (.invokevirtual 180, 3) := by decide +kernel
theorem dX12_meanMarks_15 : decode cX12_meanMarks 15 = .ok (.iconst 0, 1) := by decide +kernel
theorem dX12_meanMarks_16 : decode cX12_meanMarks 16 = .ok (.istore_n 2, 1) := by decide +kernel
theorem dX12_meanMarks_17 : decode cX12_meanMarks 17 = .ok (.iconst 0, 1) := by decide +kernel
theorem dX12_meanMarks_18 : decode cX12_meanMarks 18 = .ok (.istore_n 3, 1) := by decide +kernel
theorem dX12_meanMarks_19 : decode cX12_meanMarks 19 = .ok (.iload_n 3, 1) := by decide +kernel
theorem dX12_meanMarks_20 : decode cX12_meanMarks 20 = .ok (.aload_n 0, 1) := by decide +kernel
theorem dX12_meanMarks_21 : decode cX12_meanMarks 21 = .ok (.getfield 168, 3) := by decide +kernel
theorem dX12_meanMarks_24 : decode cX12_meanMarks 24 = .ok (.if_icmp .ge 17, 3) := by decide +kernel
theorem dX12_meanMarks_27 : decode cX12_meanMarks 27 = .ok (.iload_n 2, 1) := by decide +kernel
theorem dX12_meanMarks_28 : decode cX12_meanMarks 28 = .ok (.aload_n 0, 1) := by decide +kernel
theorem dX12_meanMarks_29 : decode cX12_meanMarks 29 = .ok (.iload_n 3, 1) := by decide +kernel
theorem dX12_meanMarks_30 : decode cX12_meanMarks 30 = .ok (.invokevirtual 186, 3) := by decide +kernel
theorem dX12_meanMarks_33 : decode cX12_meanMarks 33 = .ok (.iadd, 1) := by decide +kernel
theorem dX12_meanMarks_34 : decode cX12_meanMarks 34 = .ok (.istore_n 2, 1) := by decide +kernel
theorem dX12_meanMarks_35 : decode cX12_meanMarks 35 = .ok (.iinc 3 1, 3) := by decide +kernel
theorem dX12_meanMarks_38 : decode cX12_meanMarks 38 = .ok (.goto (-19), 3) := by decide +kernel
theorem dX12_meanMarks_41 : decode cX12_meanMarks 41 = .ok (.aload_n 0, 1) := by decide +kernel
theorem dX12_meanMarks_42 : decode cX12_meanMarks 42 = .ok (.getfield 168, 3) := by decide +kernel
theorem dX12_meanMarks_45 : decode cX12_meanMarks 45 = .ok (.ifCond .ne 7, 3) := by decide +kernel
theorem dX12_meanMarks_48 : decode cX12_meanMarks 48 = .ok (.dconst 0, 1) := by decide +kernel
theorem dX12_meanMarks_49 : decode cX12_meanMarks 49 = .ok (.goto 11, 3) := by decide +kernel
theorem dX12_meanMarks_52 : decode cX12_meanMarks 52 = .ok (.iload_n 2, 1) := by decide +kernel
theorem dX12_meanMarks_53 : decode cX12_meanMarks 53 = .ok (.i2d, 1) := by decide +kernel
theorem dX12_meanMarks_54 : decode cX12_meanMarks 54 = .ok (.aload_n 0, 1) := by decide +kernel
theorem dX12_meanMarks_55 : decode cX12_meanMarks 55 = .ok (.getfield 168, 3) := by decide +kernel
theorem dX12_meanMarks_58 : decode cX12_meanMarks 58 = .ok (.i2d, 1) := by decide +kernel
theorem dX12_meanMarks_59 : decode cX12_meanMarks 59 = .ok (.ddiv, 1) := by decide +kernel
theorem dX12_meanMarks_60 : decode cX12_meanMarks 60 = .ok (.dreturn, 1) := by decide +kernel
set_option maxRecDepth 100000 in
theorem t_X12_meanMarks_19 (G : MG) (hG : (g_l G).stackTraces = false) (d : Nat) (hd : 7 ≤ d)    : ∀ (n : Nat) (σ : MsSt) (l0 : Nat) (l2 : Int32) (l3 : Int32) (h0 : ms_kd l0 = 13), TrO G mX12_meanMarks d 0 0 0 0 ms_wx 19 [(0, .ref l0), (2, .int l2), (3, .int l3)] [] σ (f_X12_meanMarks_19 n σ l0 l2 l3) := by
  intro n
  induction n with
  | zero => exact fun _ _ _ _ _ => tr_none
  | succ n ih =>
    intro σ l0 l2 l3 h0
    show TrO G mX12_meanMarks d 0 0 0 0 ms_wx 19 [(0, .ref l0), (2, .int l2), (3, .int l3)] [] σ (if l3 < (ms_i σ l0 17) then (f_X12_marksOf σ l0 l3).bind fun v5 => (f_X12_meanMarks_19 n) σ l0 (l2 + v5) (l3 + 1) else if (ms_i σ l0 17) = 0 then some (0, σ) else (ms_ddiv (FP.i2d l2) (FP.i2d (ms_i σ l0 17))).bind fun v4 => some (v4, σ))
    refine tr_iload_n (i := 2) dX12_meanMarks_19 rfl ?_
    refine tr_aload_n (i := 0) dX12_meanMarks_20 rfl ?_
    refine tr_getI 12 h0 fl_X12_168 (by decide +kernel) dX12_meanMarks_21 ?_
    refine tr_icge (o := none) (tgt := 41) dX12_meanMarks_24 (by decide) ?_ ?_
    · refine tr_aload_n (i := 0) dX12_meanMarks_41 rfl ?_
      refine tr_getI 12 h0 fl_X12_168 (by decide +kernel) dX12_meanMarks_42 ?_
      refine tr_ifne (o := none) (tgt := 52) dX12_meanMarks_45 (by decide) ?_ ?_
      · refine tr_iload_n (i := 1) dX12_meanMarks_52 rfl ?_
        refine tr_i2d dX12_meanMarks_53 ?_
        refine tr_aload_n (i := 0) dX12_meanMarks_54 rfl ?_
        refine tr_getI 12 h0 fl_X12_168 (by decide +kernel) dX12_meanMarks_55 ?_
        refine tr_i2d dX12_meanMarks_58 ?_
        refine tr_ddiv (o := none) dX12_meanMarks_59 (fun v4 => ?_)
        exact tr_dret rfl rfl (by decide) (by decide) dX12_meanMarks_60
      · refine tr_dconst0 dX12_meanMarks_48 ?_
        refine tr_goto (tgt := 60) dX12_meanMarks_49 (by decide) ?_
        exact tr_dret rfl rfl (by decide) (by decide) dX12_meanMarks_60
    · refine tr_iload_n (i := 1) dX12_meanMarks_27 rfl ?_
      refine tr_aload_n (i := 0) dX12_meanMarks_28 rfl ?_
      refine tr_iload_n (i := 2) dX12_meanMarks_29 rfl ?_
      refine tr_c_i (ms_cV (rest := [.int l2]) (al := [.int l3]) 12 (sp_X12_marksOf G hG (d - 1) (by omega) σ l0 l3 h0) h0 (by decide +kernel) kl_X12_186 fv_X12_marksOf dX12_meanMarks_30 (show _ = some 1 by decide +kernel) (by omega) (Nat.le_of_ble_eq_true rfl) (by decide) (by decide)) (fun v5 => ?_)
      refine tr_iadd dX12_meanMarks_33 ?_
      refine tr_istore_n (lv' := [(0, .ref l0), (2, .int (l2 + v5)), (3, .int l3)]) [1, 0, 2] dX12_meanMarks_34 (by decide) rfl ?_
      refine tr_iinc (k := 2) (v := (l3 + 1)) (lv' := [(0, .ref l0), (2, .int (l2 + v5)), (3, .int (l3 + 1))]) [1, 2, 0] dX12_meanMarks_35 rfl rfl (by decide) rfl ?_
      refine tr_goto (tgt := 19) dX12_meanMarks_38 (by decide) ?_
      exact (fun s y0 y1 y2 g0 => ih s y0 y1 y2 g0) σ l0 (l2 + v5) (l3 + 1) h0
set_option maxRecDepth 100000 in
theorem sp_X12_meanMarks (G : MG) (hG : (g_l G).stackTraces = false) (d : Nat) (hd : 7 ≤ d)   (σ : MsSt) (l0 : Nat) (l1 : Int32) (h0 : ms_kd l0 = 13) : MsSpec G mX12_meanMarks d 0 0 [.ref l0, .int l1] σ ms_wx (f_X12_meanMarks σ l0 l1) := by
  refine ms_start (by decide +kernel) rfl rfl (Nat.le_of_ble_eq_true rfl) ?_
  show TrO G mX12_meanMarks d 0 0 0 0 ms_wx 0 [(0, .ref l0), (1, .int l1)] [] σ (ms_b2 (f_X12_noLine σ l0 l1) fun v1 s2 => if v1 = 0 then (f_X12_layClusters s2 l0 l1).bind fun s3 => f_X12_meanMarks_19 ms_fuel s3 l0 0 0 else some (0, s2))
  refine tr_aload_n (i := 0) dX12_meanMarks_0 rfl ?_
  refine tr_iload_n (i := 1) dX12_meanMarks_1 rfl ?_
  refine tr_d_wi (ms_cV (rest := []) (al := [.int l1]) 12 (sp_X12_noLine G hG (d - 1) (by omega) σ l0 l1 h0) h0 (by decide +kernel) kl_X12_247 fv_X12_noLine dX12_meanMarks_2 (show _ = some 1 by decide +kernel) (by omega) (Nat.le_of_ble_eq_true rfl) (by decide) (by decide)) (fun v1 s2 => ?_)
  refine tr_ifeq (o := none) (tgt := 10) dX12_meanMarks_5 (by decide) ?_ ?_
  · refine tr_aload_n (i := 0) dX12_meanMarks_10 rfl ?_
    refine tr_iload_n (i := 1) dX12_meanMarks_11 rfl ?_
    refine tr_c_wv (ms_cV (rest := []) (al := [.int l1]) 12 (sp_X12_layClusters G hG (d - 1) (by omega) s2 l0 l1 h0) h0 (by decide +kernel) kl_X12_180 fv_X12_layClusters dX12_meanMarks_12 (show _ = some 1 by decide +kernel) (by omega) (Nat.le_of_ble_eq_true rfl) (by decide) (by decide)) (fun s3 => ?_)
    refine tr_iconst (v := 0) dX12_meanMarks_15 (by decide +kernel) ?_
    refine tr_istore_n (lv' := [(0, .ref l0), (2, .int 0)]) [1, 0] dX12_meanMarks_16 (by decide) rfl ?_
    refine tr_iconst (v := 0) dX12_meanMarks_17 (by decide +kernel) ?_
    refine tr_istore_n (lv' := [(0, .ref l0), (2, .int 0), (3, .int 0)]) [1, 2, 0] dX12_meanMarks_18 (by decide) rfl ?_
    exact t_X12_meanMarks_19 G hG d hd ms_fuel s3 l0 0 0 h0
  · refine tr_dconst0 dX12_meanMarks_8 ?_
    exact tr_dret rfl rfl (by decide) (by decide) dX12_meanMarks_9
theorem dX12_shortness_0 : decode cX12_shortness 0 = .ok (.aload_n 0, 1) := by decide +kernel
theorem dX12_shortness_1 : decode cX12_shortness 1 = .ok (.iload_n 1, 1) := by decide +kernel
theorem dX12_shortness_2 : decode cX12_shortness 2 = .ok (.invokevirtual 247, 3) := by decide +kernel
theorem dX12_shortness_5 : decode cX12_shortness 5 = .ok (.ifCond .eq 5, 3) := by decide +kernel
theorem dX12_shortness_8 : decode cX12_shortness 8 = .ok (.fconst 0, 1) := by decide +kernel
theorem dX12_shortness_9 : decode cX12_shortness 9 = .ok (.freturn, 1) := by decide +kernel
theorem dX12_shortness_10 : decode cX12_shortness 10 = .ok (.aload_n 0, 1) := by decide +kernel
theorem dX12_shortness_11 : decode cX12_shortness 11 = .ok (.iload_n 1, 1) := by decide +kernel
theorem dX12_shortness_12 : decode cX12_shortness 12 = .ok (.invokevirtual 262, 3) := by decide +kernel
theorem dX12_shortness_15 : decode cX12_shortness 15 = .ok (.aload_n 0, 1) := by decide +kernel
theorem dX12_shortness_16 : decode cX12_shortness 16 = .ok (.getfield 132, 3) := by decide +kernel
theorem dX12_shortness_19 : decode cX12_shortness 19 = .ok (.ifCond .ne 7, 3) := by decide +kernel
theorem dX12_shortness_22 : decode cX12_shortness 22 = .ok (.fconst 0, 1) := by decide +kernel
theorem dX12_shortness_23 : decode cX12_shortness 23 = .ok (.goto 14, 3) := by decide +kernel
theorem dX12_shortness_26 : decode cX12_shortness 26 = .ok (.aload_n 0, 1) := by decide +kernel
theorem dX12_shortness_27 : decode cX12_shortness 27 = .ok (.getfield 155, 3) := by decide +kernel
theorem dX12_shortness_30 : decode cX12_shortness 30 = .ok (.i2f, 1) := by decide +kernel
theorem dX12_shortness_31 : decode cX12_shortness 31 = .ok (.aload_n 0, 1) := by decide +kernel
theorem dX12_shortness_32 : decode cX12_shortness 32 = .ok (.getfield 132, 3) := by decide +kernel
theorem dX12_shortness_35 : decode cX12_shortness 35 = .ok (.i2f, 1) := by decide +kernel
theorem dX12_shortness_36 : decode cX12_shortness 36 = .ok (.fdiv, 1) := by decide +kernel
theorem dX12_shortness_37 : decode cX12_shortness 37 = .ok (.freturn, 1) := by decide +kernel
set_option maxRecDepth 100000 in
theorem sp_X12_shortness (G : MG) (hG : (g_l G).stackTraces = false) (d : Nat) (hd : 7 ≤ d)   (σ : MsSt) (l0 : Nat) (l1 : Int32) (h0 : ms_kd l0 = 13) : MsSpec G mX12_shortness d 0 0 [.ref l0, .int l1] σ ms_wf (f_X12_shortness σ l0 l1) := by
  refine ms_start (by decide +kernel) rfl rfl (Nat.le_of_ble_eq_true rfl) ?_
  show TrO G mX12_shortness d 0 0 0 0 ms_wf 0 [(0, .ref l0), (1, .int l1)] [] σ (ms_b2 (f_X12_noLine σ l0 l1) fun v1 s2 => if v1 = 0 then (f_X12_layForms s2 l0 l1).bind fun s3 => if (ms_i s3 l0 11) = 0 then some (0, s3) else (ms_fdiv (FP.i2f (ms_i s3 l0 15)) (FP.i2f (ms_i s3 l0 11))).bind fun v4 => some (v4, s3) else some (0, s2))
  refine tr_aload_n (i := 0) dX12_shortness_0 rfl ?_
  refine tr_iload_n (i := 1) dX12_shortness_1 rfl ?_
  refine tr_d_wi (ms_cV (rest := []) (al := [.int l1]) 12 (sp_X12_noLine G hG (d - 1) (by omega) σ l0 l1 h0) h0 (by decide +kernel) kl_X12_247 fv_X12_noLine dX12_shortness_2 (show _ = some 1 by decide +kernel) (by omega) (Nat.le_of_ble_eq_true rfl) (by decide) (by decide)) (fun v1 s2 => ?_)
  refine tr_ifeq (o := none) (tgt := 10) dX12_shortness_5 (by decide) ?_ ?_
  · refine tr_aload_n (i := 0) dX12_shortness_10 rfl ?_
    refine tr_iload_n (i := 1) dX12_shortness_11 rfl ?_
    refine tr_c_wv (ms_cV (rest := []) (al := [.int l1]) 12 (sp_X12_layForms G hG (d - 1) (by omega) s2 l0 l1 h0) h0 (by decide +kernel) kl_X12_262 fv_X12_layForms dX12_shortness_12 (show _ = some 1 by decide +kernel) (by omega) (Nat.le_of_ble_eq_true rfl) (by decide) (by decide)) (fun s3 => ?_)
    refine tr_aload_n (i := 0) dX12_shortness_15 rfl ?_
    refine tr_getI 12 h0 fl_X12_132 (by decide +kernel) dX12_shortness_16 ?_
    refine tr_ifne (o := none) (tgt := 26) dX12_shortness_19 (by decide) ?_ ?_
    · refine tr_aload_n (i := 0) dX12_shortness_26 rfl ?_
      refine tr_getI 12 h0 fl_X12_155 (by decide +kernel) dX12_shortness_27 ?_
      refine tr_i2f dX12_shortness_30 ?_
      refine tr_aload_n (i := 0) dX12_shortness_31 rfl ?_
      refine tr_getI 12 h0 fl_X12_132 (by decide +kernel) dX12_shortness_32 ?_
      refine tr_i2f dX12_shortness_35 ?_
      refine tr_fdiv (o := none) dX12_shortness_36 (fun v4 => ?_)
      exact tr_fret rfl rfl (by decide) (by decide) dX12_shortness_37
    · refine tr_fconst0 dX12_shortness_22 ?_
      refine tr_goto (tgt := 37) dX12_shortness_23 (by decide) ?_
      exact tr_fret rfl rfl (by decide) (by decide) dX12_shortness_37
  · refine tr_fconst0 dX12_shortness_8 ?_
    exact tr_fret rfl rfl (by decide) (by decide) dX12_shortness_9
theorem dX12_copy_0 : decode cX12_copy 0 = .ok (.iconst 0, 1) := by decide +kernel
theorem dX12_copy_1 : decode cX12_copy 1 = .ok (.istore 4, 2) := by decide +kernel
theorem dX12_copy_3 : decode cX12_copy 3 = .ok (.iload 4, 2) := by decide +kernel
theorem dX12_copy_5 : decode cX12_copy 5 = .ok (.sipush 527, 3) := by decide +kernel
theorem dX12_copy_8 : decode cX12_copy 8 = .ok (.if_icmp .ge 29, 3) := by decide +kernel
theorem dX12_copy_11 : decode cX12_copy 11 = .ok (.aload_n 2, 1) := by decide +kernel
theorem dX12_copy_12 : decode cX12_copy 12 = .ok (.sipush 527, 3) := by decide +kernel
theorem dX12_copy_15 : decode cX12_copy 15 = .ok (.iload_n 3, 1) := by decide +kernel
theorem dX12_copy_16 : decode cX12_copy 16 = .ok (.imul, 1) := by decide +kernel
theorem dX12_copy_17 : decode cX12_copy 17 = .ok (.iload 4, 2) := by decide +kernel
theorem dX12_copy_19 : decode cX12_copy 19 = .ok (.iadd, 1) := by decide +kernel
theorem dX12_copy_20 : decode cX12_copy 20 = .ok (.aload_n 0, 1) := by decide +kernel
theorem dX12_copy_21 : decode cX12_copy 21 = .ok (.sipush 527, 3) := by decide +kernel
theorem dX12_copy_24 : decode cX12_copy 24 = .ok (.iload_n 1, 1) := by decide +kernel
theorem dX12_copy_25 : decode cX12_copy 25 = .ok (.imul, 1) := by decide +kernel
theorem dX12_copy_26 : decode cX12_copy 26 = .ok (.iload 4, 2) := by decide +kernel
theorem dX12_copy_28 : decode cX12_copy 28 = .ok (.iadd, 1) := by decide +kernel
theorem dX12_copy_29 : decode cX12_copy 29 = .ok (.iaload, 1) := by decide +kernel
theorem dX12_copy_30 : decode cX12_copy 30 = .ok (.iastore, 1) := by decide +kernel
theorem dX12_copy_31 : decode cX12_copy 31 = .ok (.iinc 4 1, 3) := by decide +kernel
theorem dX12_copy_34 : decode cX12_copy 34 = .ok (.goto (-31), 3) := by decide +kernel
theorem dX12_copy_37 : decode cX12_copy 37 = .ok (.return_, 1) := by decide +kernel
set_option maxRecDepth 100000 in
theorem t_X12_copy_3 (G : MG) (hG : (g_l G).stackTraces = false) (d : Nat) (hd : 0 ≤ d)    : ∀ (n : Nat) (σ : MsSt) (l0 : Nat) (l1 : Int32) (l2 : Nat) (l3 : Int32) (l4 : Int32) (h0 : ms_kd l0 = 20) (h2 : ms_kd l2 = 20), TrO G mX12_copy d 0 0 0 0 ms_wv 3 [(0, .ref l0), (1, .int l1), (2, .ref l2), (3, .int l3), (4, .int l4)] [] σ (f_X12_copy_3 n σ l0 l1 l2 l3 l4) := by
  intro n
  induction n with
  | zero => exact fun _ _ _ _ _ _ _ _ => tr_none
  | succ n ih =>
    intro σ l0 l1 l2 l3 l4 h0 h2
    show TrO G mX12_copy d 0 0 0 0 ms_wv 3 [(0, .ref l0), (1, .int l1), (2, .ref l2), (3, .int l3), (4, .int l4)] [] σ (if l4 < 527 then (ms_ald σ l0 ((527 * l1) + l4)).bind fun v1 => (ms_ast σ l2 ((527 * l3) + l4) v1).bind fun s2 => (f_X12_copy_3 n) s2 l0 l1 l2 l3 (l4 + 1) else some σ)
    refine tr_iload (i := 4) dX12_copy_3 rfl ?_
    refine tr_sipush (v := 527) dX12_copy_5 (by decide +kernel) ?_
    refine tr_icge (o := none) (tgt := 37) dX12_copy_8 (by decide) ?_ ?_
    · exact tr_vret rfl rfl (by decide) (by decide) dX12_copy_37
    · refine tr_aload_n (i := 2) dX12_copy_11 rfl ?_
      refine tr_sipush (v := 527) dX12_copy_12 (by decide +kernel) ?_
      refine tr_iload_n (i := 3) dX12_copy_15 rfl ?_
      refine tr_imul dX12_copy_16 ?_
      refine tr_iload (i := 4) dX12_copy_17 rfl ?_
      refine tr_iadd dX12_copy_19 ?_
      refine tr_aload_n (i := 0) dX12_copy_20 rfl ?_
      refine tr_sipush (v := 527) dX12_copy_21 (by decide +kernel) ?_
      refine tr_iload_n (i := 1) dX12_copy_24 rfl ?_
      refine tr_imul dX12_copy_25 ?_
      refine tr_iload (i := 4) dX12_copy_26 rfl ?_
      refine tr_iadd dX12_copy_28 ?_
      refine tr_ald h0 dX12_copy_29 (fun v1 => ?_)
      refine tr_ast h2 dX12_copy_30 (fun s2 => ?_)
      refine tr_iinc (k := 4) (v := (l4 + 1)) (lv' := [(0, .ref l0), (1, .int l1), (2, .ref l2), (3, .int l3), (4, .int (l4 + 1))]) [1, 2, 3, 4, 0] dX12_copy_31 rfl rfl (by decide) rfl ?_
      refine tr_goto (tgt := 3) dX12_copy_34 (by decide) ?_
      exact (fun s y0 y1 y2 y3 y4 g0 g1 => ih s y0 y1 y2 y3 y4 g0 g1) s2 l0 l1 l2 l3 (l4 + 1) h0 h2
set_option maxRecDepth 100000 in
theorem sp_X12_copy (G : MG) (hG : (g_l G).stackTraces = false) (d : Nat) (hd : 0 ≤ d)   (σ : MsSt) (l0 : Nat) (l1 : Int32) (l2 : Nat) (l3 : Int32) (h0 : ms_kd l0 = 20) (h2 : ms_kd l2 = 20) : MsSpec G mX12_copy d 0 0 [.ref l0, .int l1, .ref l2, .int l3] σ ms_wv (f_X12_copy σ l0 l1 l2 l3) := by
  refine ms_start (by decide +kernel) rfl rfl (Nat.le_of_ble_eq_true rfl) ?_
  show TrO G mX12_copy d 0 0 0 0 ms_wv 0 [(0, .ref l0), (1, .int l1), (2, .ref l2), (3, .int l3)] [] σ (f_X12_copy_3 ms_fuel σ l0 l1 l2 l3 0)
  refine tr_iconst (v := 0) dX12_copy_0 (by decide +kernel) ?_
  refine tr_istore (lv' := [(0, .ref l0), (1, .int l1), (2, .ref l2), (3, .int l3), (4, .int 0)]) [1, 2, 3, 4, 0] dX12_copy_1 (by decide) rfl ?_
  exact t_X12_copy_3 G hG d hd ms_fuel σ l0 l1 l2 l3 0 h0 h2
theorem dX12_record_0 : decode cX12_record 0 = .ok (.aload_n 0, 1) := by decide +kernel
theorem dX12_record_1 : decode cX12_record 1 = .ok (.getfield 349, 3) := by decide +kernel
theorem dX12_record_4 : decode cX12_record 4 = .ok (.bipush 10, 2) := by decide +kernel
theorem dX12_record_6 : decode cX12_record 6 = .ok (.if_icmp .ne 42, 3) := by decide +kernel
theorem dX12_record_9 : decode cX12_record 9 = .ok (.iconst 1, 1) := by decide +kernel
theorem dX12_record_10 : decode cX12_record 10 = .ok (.istore_n 1, 1) := by decide +kernel
theorem dX12_record_11 : decode cX12_record 11 = .ok (.iload_n 1, 1) := by decide +kernel
theorem dX12_record_12 : decode cX12_record 12 = .ok (.bipush 10, 2) := by decide +kernel
theorem dX12_record_14 : decode cX12_record 14 = .ok (.if_icmp .ge 24, 3) := by decide +kernel
theorem dX12_record_17 : decode cX12_record 17 = .ok (.aload_n 0, 1) := by decide +kernel
theorem dX12_record_18 : decode cX12_record 18 = .ok (.getfield 19, 3) := by decide +kernel
theorem dX12_record_21 : decode cX12_record 21 = .ok (.iload_n 1, 1) := by decide +kernel
theorem dX12_record_22 : decode cX12_record 22 = .ok (.aload_n 0, 1) := by decide +kernel
theorem dX12_record_23 : decode cX12_record 23 = .ok (.getfield 19, 3) := by decide +kernel
theorem dX12_record_26 : decode cX12_record 26 = .ok (.iload_n 1, 1) := by decide +kernel
theorem dX12_record_27 : decode cX12_record 27 = .ok (.iconst 1, 1) := by decide +kernel
theorem dX12_record_28 : decode cX12_record 28 = .ok (.isub, 1) := by decide +kernel
theorem dX12_record_29 : decode cX12_record 29 = .ok (.invokestatic 352, 3) := by decide +kernel
theorem dX12_record_32 : decode cX12_record 32 = .ok (.iinc 1 1, 3) := by decide +kernel
theorem dX12_record_35 : decode cX12_record 35 = .ok (.goto (-24), 3) := by decide +kernel
theorem dX12_record_38 : decode cX12_record 38 = .ok (.aload_n 0, 1) := by decide +kernel
theorem dX12_record_39 : decode cX12_record 39 = .ok (.dup, 1) := by decide +kernel
theorem dX12_record_40 : decode cX12_record 40 = .ok (.getfield 349, 3) := by decide +kernel
theorem dX12_record_43 : decode cX12_record 43 = .ok (.iconst 1, 1) := by decide +kernel
theorem dX12_record_44 : decode cX12_record 44 = .ok (.isub, 1) := by decide +kernel
theorem dX12_record_45 : decode cX12_record 45 = .ok (.putfield 349, 3) := by decide +kernel
theorem dX12_record_48 : decode cX12_record 48 = .ok (.aload_n 0, 1) := by decide +kernel
theorem dX12_record_49 : decode cX12_record 49 = .ok (.getfield 9, 3) := by decide +kernel
theorem dX12_record_52 : decode cX12_record 52 = .ok (.iconst 0, 1) := by decide +kernel
theorem dX12_record_53 : decode cX12_record 53 = .ok (.aload_n 0, 1) := by decide +kernel
theorem dX12_record_54 : decode cX12_record 54 = .ok (.getfield 19, 3) := by decide +kernel
theorem dX12_record_57 : decode cX12_record 57 = .ok (.aload_n 0, 1) := by decide +kernel
theorem dX12_record_58 : decode cX12_record 58 = .ok (.getfield 349, 3) := by decide +kernel
theorem dX12_record_61 : decode cX12_record 61 = .ok (.invokestatic 352, 3) := by decide +kernel
theorem dX12_record_64 : decode cX12_record 64 = .ok (.aload_n 0, 1) := by decide +kernel
theorem dX12_record_65 : decode cX12_record 65 = .ok (.dup, 1) := by decide +kernel
theorem dX12_record_66 : decode cX12_record 66 = .ok (.getfield 349, 3) := by decide +kernel
theorem dX12_record_69 : decode cX12_record 69 = .ok (.iconst 1, 1) := by decide +kernel
theorem dX12_record_70 : decode cX12_record 70 = .ok (.iadd, 1) := by decide +kernel
theorem dX12_record_71 : decode cX12_record 71 = .ok (.putfield 349, 3) := by decide +kernel
theorem dX12_record_74 : decode cX12_record 74 = .ok (.return_, 1) := by decide +kernel
set_option maxRecDepth 100000 in
theorem t_X12_record_48 (G : MG) (hG : (g_l G).stackTraces = false) (d : Nat) (hd : 1 ≤ d)    (σ : MsSt) (l0 : Nat) (h0 : ms_kd l0 = 13) : TrO G mX12_record d 0 0 0 0 ms_wv 48 [(0, .ref l0)] [] σ (f_X12_record_48 σ l0) := by
  show TrO G mX12_record d 0 0 0 0 ms_wv 48 [(0, .ref l0)] [] σ ((f_X12_copy σ (ms_rf l0 0) 0 (ms_rf l0 3) (ms_i σ l0 6)).bind fun s1 => ms_nm (ms_si s1 l0 6 ((ms_i s1 l0 6) + 1)) fun s2 => some s2)
  refine tr_aload_n (i := 0) dX12_record_48 rfl ?_
  refine tr_getR 12 h0 fl_X12_9 (by decide +kernel) dX12_record_49 ?_
  refine tr_iconst (v := 0) dX12_record_52 (by decide +kernel) ?_
  refine tr_aload_n (i := 0) dX12_record_53 rfl ?_
  refine tr_getR 12 h0 fl_X12_19 (by decide +kernel) dX12_record_54 ?_
  refine tr_aload_n (i := 0) dX12_record_57 rfl ?_
  refine tr_getI 12 h0 fl_X12_349 (by decide +kernel) dX12_record_58 ?_
  refine tr_c_wv (ms_cS (rest := []) (al := [.ref (ms_rf l0 0), .int 0, .ref (ms_rf l0 3), .int (ms_i σ l0 6)]) (sp_X12_copy G hG (d - 1) (by omega) σ (ms_rf l0 0) 0 (ms_rf l0 3) (ms_i σ l0 6) (rk_12_0 h0) (rk_12_3 h0)) kl_X12_352 fs_X12_copy dX12_record_61 (show _ = some 4 by decide +kernel) (by omega) (Nat.le_of_ble_eq_true rfl) (by decide) (by decide)) (fun s1 => ?_)
  refine tr_aload_n (i := 0) dX12_record_64 rfl ?_
  refine tr_dup dX12_record_65 rfl ?_
  refine tr_getI 12 h0 fl_X12_349 (by decide +kernel) dX12_record_66 ?_
  refine tr_iconst (v := 1) dX12_record_69 (by decide +kernel) ?_
  refine tr_iadd dX12_record_70 ?_
  refine tr_putI 12 h0 fl_X12_349 (by decide +kernel) dX12_record_71 ?_
  refine ms_ltS (fun s2 => ?_)
  exact tr_vret rfl rfl (by decide) (by decide) dX12_record_74
set_option maxRecDepth 100000 in
theorem t_X12_record_11 (G : MG) (hG : (g_l G).stackTraces = false) (d : Nat) (hd : 1 ≤ d)    : ∀ (n : Nat) (σ : MsSt) (l0 : Nat) (l1 : Int32) (h0 : ms_kd l0 = 13), TrO G mX12_record d 0 0 0 0 ms_wv 11 [(0, .ref l0), (1, .int l1)] [] σ (f_X12_record_11 n σ l0 l1) := by
  intro n
  induction n with
  | zero => exact fun _ _ _ _ => tr_none
  | succ n ih =>
    intro σ l0 l1 h0
    show TrO G mX12_record d 0 0 0 0 ms_wv 11 [(0, .ref l0), (1, .int l1)] [] σ (if l1 < 10 then (f_X12_copy σ (ms_rf l0 3) l1 (ms_rf l0 3) (l1 - 1)).bind fun s4 => (f_X12_record_11 n) s4 l0 (l1 + 1) else ms_nm (ms_si σ l0 6 ((ms_i σ l0 6) - 1)) fun s3 => f_X12_record_48 s3 l0)
    refine tr_iload_n (i := 1) dX12_record_11 rfl ?_
    refine tr_bipush (v := 10) dX12_record_12 (by decide +kernel) ?_
    refine tr_icge (o := none) (tgt := 38) dX12_record_14 (by decide) ?_ ?_
    · refine tr_aload_n (i := 0) dX12_record_38 rfl ?_
      refine tr_dup dX12_record_39 rfl ?_
      refine tr_getI 12 h0 fl_X12_349 (by decide +kernel) dX12_record_40 ?_
      refine tr_iconst (v := 1) dX12_record_43 (by decide +kernel) ?_
      refine tr_isub dX12_record_44 ?_
      refine tr_putI 12 h0 fl_X12_349 (by decide +kernel) dX12_record_45 ?_
      refine ms_ltS (fun s3 => ?_)
      refine tr_weak [0] (lv' := [(0, .ref l0)]) rfl ?_
      exact t_X12_record_48 G hG d hd s3 l0 h0
    · refine tr_aload_n (i := 0) dX12_record_17 rfl ?_
      refine tr_getR 12 h0 fl_X12_19 (by decide +kernel) dX12_record_18 ?_
      refine tr_iload_n (i := 1) dX12_record_21 rfl ?_
      refine tr_aload_n (i := 0) dX12_record_22 rfl ?_
      refine tr_getR 12 h0 fl_X12_19 (by decide +kernel) dX12_record_23 ?_
      refine tr_iload_n (i := 1) dX12_record_26 rfl ?_
      refine tr_iconst (v := 1) dX12_record_27 (by decide +kernel) ?_
      refine tr_isub dX12_record_28 ?_
      refine tr_c_wv (ms_cS (rest := []) (al := [.ref (ms_rf l0 3), .int l1, .ref (ms_rf l0 3), .int (l1 - 1)]) (sp_X12_copy G hG (d - 1) (by omega) σ (ms_rf l0 3) l1 (ms_rf l0 3) (l1 - 1) (rk_12_3 h0) (rk_12_3 h0)) kl_X12_352 fs_X12_copy dX12_record_29 (show _ = some 4 by decide +kernel) (by omega) (Nat.le_of_ble_eq_true rfl) (by decide) (by decide)) (fun s4 => ?_)
      refine tr_iinc (k := 1) (v := (l1 + 1)) (lv' := [(0, .ref l0), (1, .int (l1 + 1))]) [1, 0] dX12_record_32 rfl rfl (by decide) rfl ?_
      refine tr_goto (tgt := 11) dX12_record_35 (by decide) ?_
      exact (fun s y0 y1 g0 => ih s y0 y1 g0) s4 l0 (l1 + 1) h0
set_option maxRecDepth 100000 in
theorem sp_X12_record (G : MG) (hG : (g_l G).stackTraces = false) (d : Nat) (hd : 1 ≤ d)   (σ : MsSt) (l0 : Nat) (h0 : ms_kd l0 = 13) : MsSpec G mX12_record d 0 0 [.ref l0] σ ms_wv (f_X12_record σ l0) := by
  refine ms_start (by decide +kernel) rfl rfl (Nat.le_of_ble_eq_true rfl) ?_
  show TrO G mX12_record d 0 0 0 0 ms_wv 0 [(0, .ref l0)] [] σ (if (ms_i σ l0 6) = 10 then f_X12_record_11 ms_fuel σ l0 1 else f_X12_record_48 σ l0)
  refine tr_aload_n (i := 0) dX12_record_0 rfl ?_
  refine tr_getI 12 h0 fl_X12_349 (by decide +kernel) dX12_record_1 ?_
  refine tr_bipush (v := 10) dX12_record_4 (by decide +kernel) ?_
  refine tr_icne (o := none) (tgt := 48) dX12_record_6 (by decide) ?_ ?_
  · exact t_X12_record_48 G hG d hd σ l0 h0
  · refine tr_iconst (v := 1) dX12_record_9 (by decide +kernel) ?_
    refine tr_istore_n (lv' := [(0, .ref l0), (1, .int 1)]) [1, 0] dX12_record_10 (by decide) rfl ?_
    exact t_X12_record_11 G hG d hd ms_fuel σ l0 1 h0
theorem dX12_hand_0 : decode cX12_hand 0 = .ok (.aload_n 0, 1) := by decide +kernel
theorem dX12_hand_1 : decode cX12_hand 1 = .ok (.iload_n 1, 1) := by decide +kernel
theorem dX12_hand_2 : decode cX12_hand 2 = .ok (.invokevirtual 247, 3) := by decide +kernel
theorem dX12_hand_5 : decode cX12_hand 5 = .ok (.ifCond .eq 5, 3) := by decide +kernel
theorem dX12_hand_8 : decode cX12_hand 8 = .ok (.iconst 0, 1) := by decide +kernel
theorem dX12_hand_9 : decode cX12_hand 9 = .ok (.ireturn, 1) := by decide +kernel
theorem dX12_hand_10 : decode cX12_hand 10 = .ok (.aload_n 0, 1) := by decide +kernel
theorem dX12_hand_11 : decode cX12_hand 11 = .ok (.invokevirtual 319, 3) := by decide +kernel
theorem dX12_hand_14 : decode cX12_hand 14 = .ok (.aload_n 0, 1) := by decide +kernel
theorem dX12_hand_15 : decode cX12_hand 15 = .ok (.getfield 9, 3) := by decide +kernel
theorem dX12_hand_18 : decode cX12_hand 18 = .ok (.iconst 2, 1) := by decide +kernel
theorem dX12_hand_19 : decode cX12_hand 19 = .ok (.iaload, 1) := by decide +kernel
theorem dX12_hand_20 : decode cX12_hand 20 = .ok (.istore_n 2, 1) := by decide +kernel
theorem dX12_hand_21 : decode cX12_hand 21 = .ok (.aload_n 0, 1) := by decide +kernel
theorem dX12_hand_22 : decode cX12_hand 22 = .ok (.getfield 9, 3) := by decide +kernel
theorem dX12_hand_25 : decode cX12_hand 25 = .ok (.iconst 2, 1) := by decide +kernel
theorem dX12_hand_26 : decode cX12_hand 26 = .ok (.iload_n 1, 1) := by decide +kernel
theorem dX12_hand_27 : decode cX12_hand 27 = .ok (.iastore, 1) := by decide +kernel
theorem dX12_hand_28 : decode cX12_hand 28 = .ok (.iload_n 2, 1) := by decide +kernel
theorem dX12_hand_29 : decode cX12_hand 29 = .ok (.ireturn, 1) := by decide +kernel
set_option maxRecDepth 100000 in
theorem sp_X12_hand (G : MG) (hG : (g_l G).stackTraces = false) (d : Nat) (hd : 3 ≤ d)   (σ : MsSt) (l0 : Nat) (l1 : Int32) (h0 : ms_kd l0 = 13) : MsSpec G mX12_hand d 0 0 [.ref l0, .int l1] σ ms_wi (f_X12_hand σ l0 l1) := by
  refine ms_start (by decide +kernel) rfl rfl (Nat.le_of_ble_eq_true rfl) ?_
  show TrO G mX12_hand d 0 0 0 0 ms_wi 0 [(0, .ref l0), (1, .int l1)] [] σ (ms_b2 (f_X12_noLine σ l0 l1) fun v1 s2 => if v1 = 0 then (f_X12_record s2 l0).bind fun s3 => (ms_ald s3 (ms_rf l0 0) 2).bind fun v4 => (ms_ast s3 (ms_rf l0 0) 2 l1).bind fun s5 => some (v4, s5) else some (0, s2))
  refine tr_aload_n (i := 0) dX12_hand_0 rfl ?_
  refine tr_iload_n (i := 1) dX12_hand_1 rfl ?_
  refine tr_d_wi (ms_cV (rest := []) (al := [.int l1]) 12 (sp_X12_noLine G hG (d - 1) (by omega) σ l0 l1 h0) h0 (by decide +kernel) kl_X12_247 fv_X12_noLine dX12_hand_2 (show _ = some 1 by decide +kernel) (by omega) (Nat.le_of_ble_eq_true rfl) (by decide) (by decide)) (fun v1 s2 => ?_)
  refine tr_ifeq (o := none) (tgt := 10) dX12_hand_5 (by decide) ?_ ?_
  · refine tr_aload_n (i := 0) dX12_hand_10 rfl ?_
    refine tr_c_wv (ms_cV (rest := []) (al := []) 12 (sp_X12_record G hG (d - 1) (by omega) s2 l0 h0) h0 (by decide +kernel) kl_X12_319 fv_X12_record dX12_hand_11 (show _ = some 0 by decide +kernel) (by omega) (Nat.le_of_ble_eq_true rfl) (by decide) (by decide)) (fun s3 => ?_)
    refine tr_aload_n (i := 0) dX12_hand_14 rfl ?_
    refine tr_getR 12 h0 fl_X12_9 (by decide +kernel) dX12_hand_15 ?_
    refine tr_iconst (v := 2) dX12_hand_18 (by decide +kernel) ?_
    refine tr_ald (rk_12_0 h0) dX12_hand_19 (fun v4 => ?_)
    refine tr_istore_n (lv' := [(0, .ref l0), (1, .int l1), (2, .int v4)]) [1, 2, 0] dX12_hand_20 (by decide) rfl ?_
    refine tr_aload_n (i := 0) dX12_hand_21 rfl ?_
    refine tr_getR 12 h0 fl_X12_9 (by decide +kernel) dX12_hand_22 ?_
    refine tr_iconst (v := 2) dX12_hand_25 (by decide +kernel) ?_
    refine tr_iload_n (i := 1) dX12_hand_26 rfl ?_
    refine tr_ast (rk_12_0 h0) dX12_hand_27 (fun s5 => ?_)
    refine tr_iload_n (i := 2) dX12_hand_28 rfl ?_
    exact tr_iret rfl rfl (by decide) (by decide) dX12_hand_29
  · refine tr_iconst (v := 0) dX12_hand_8 (by decide +kernel) ?_
    exact tr_iret rfl rfl (by decide) (by decide) dX12_hand_9
