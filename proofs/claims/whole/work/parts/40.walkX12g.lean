/-! X12: the bytecode does what the functions say (by program: wip/whole/gen) -/
theorem dX12_lookSign_0 : decode cX12_lookSign 0 = .ok (.aload_n 0, 1) := by decide +kernel
theorem dX12_lookSign_1 : decode cX12_lookSign 1 = .ok (.aload_n 0, 1) := by decide +kernel
theorem dX12_lookSign_2 : decode cX12_lookSign 2 = .ok (.invokevirtual 435, 3) := by decide +kernel
theorem dX12_lookSign_5 : decode cX12_lookSign 5 = .ok (.iconst 1, 1) := by decide +kernel
theorem dX12_lookSign_6 : decode cX12_lookSign 6 = .ok (.invokevirtual 410, 3) := by decide +kernel
theorem dX12_lookSign_9 : decode cX12_lookSign 9 = .ok (.aload_n 0, 1) := by decide +kernel
theorem dX12_lookSign_10 : decode cX12_lookSign 10 = .ok (.getfield 384, 3) := by decide +kernel
theorem dX12_lookSign_13 : decode cX12_lookSign 13 = .ok (.ifCond .ne 10, 3) := by decide +kernel
theorem dX12_lookSign_16 : decode cX12_lookSign 16 = .ok (.aload_n 0, 1) := by decide +kernel
theorem dX12_lookSign_17 : decode cX12_lookSign 17 = .ok (.invokevirtual 439, 3) := by decide +kernel
theorem dX12_lookSign_20 : decode cX12_lookSign 20 = .ok (.goto 4, 3) := by decide +kernel
theorem dX12_lookSign_23 : decode cX12_lookSign 23 = .ok (.iconst (-1), 1) := by decide +kernel
theorem dX12_lookSign_24 : decode cX12_lookSign 24 = .ok (.istore_n 1, 1) := by decide +kernel
theorem dX12_lookSign_25 : decode cX12_lookSign 25 = .ok (.aload_n 0, 1) := by decide +kernel
theorem dX12_lookSign_26 : decode cX12_lookSign 26 = .ok (.aload_n 0, 1) := by decide +kernel
theorem dX12_lookSign_27 : decode cX12_lookSign 27 = .ok (.getfield 384, 3) := by decide +kernel
theorem dX12_lookSign_30 : decode cX12_lookSign 30 = .ok (.ifCond .ne 8, 3) := by decide +kernel
theorem dX12_lookSign_33 : decode cX12_lookSign 33 = .ok (.iload_n 1, 1) := by decide +kernel
theorem dX12_lookSign_34 : decode cX12_lookSign 34 = .ok (.iconst (-1), 1) := by decide +kernel
theorem dX12_lookSign_35 : decode cX12_lookSign 35 = .ok (.if_icmp .eq 7, 3) := by decide +kernel
theorem dX12_lookSign_38 : decode cX12_lookSign 38 = .ok (.iconst 1, 1) := by decide +kernel
theorem dX12_lookSign_39 : decode cX12_lookSign 39 = .ok (.goto 4, 3) := by decide +kernel
theorem dX12_lookSign_42 : decode cX12_lookSign 42 = .ok (.iconst 0, 1) := by decide +kernel
theorem dX12_lookSign_43 : decode cX12_lookSign 43 = .ok (.iconst 4, 1) := by decide +kernel
theorem dX12_lookSign_44 : decode cX12_lookSign 44 = .ok (.invokevirtual 410, 3) := by decide +kernel
theorem dX12_lookSign_47 : decode cX12_lookSign 47 = .ok (.iload_n 1, 1) := by decide +kernel
theorem dX12_lookSign_48 : decode cX12_lookSign 48 = .ok (.ireturn, 1) := by decide +kernel
set_option maxRecDepth 100000 in
theorem t_X12_lookSign_24 (G : MG) (hG : (g_l G).stackTraces = false) (d : Nat) (hd : 6 ≤ d)    (σ : MsSt) (l0 : Nat) (t0 : Int32) (h0 : ms_kd l0 = 13) : TrO G mX12_lookSign d 0 0 0 0 ms_wi 24 [(0, .ref l0)] [.int t0] σ (f_X12_lookSign_24 σ l0 t0) := by
  show TrO G mX12_lookSign d 0 0 0 0 ms_wi 24 [(0, .ref l0)] [.int t0] σ (if (ms_i σ l0 32) = 0 then if t0 = (-1) then (f_X12_check σ l0 0 4).bind fun s4 => some (t0, s4) else (f_X12_check σ l0 1 4).bind fun s5 => some (t0, s5) else (f_X12_check σ l0 1 4).bind fun s3 => some (t0, s3))
  refine tr_istore_n (lv' := [(0, .ref l0), (1, .int t0)]) [1, 0] dX12_lookSign_24 (by decide) rfl ?_
  refine tr_aload_n (i := 0) dX12_lookSign_25 rfl ?_
  refine tr_aload_n (i := 0) dX12_lookSign_26 rfl ?_
  refine tr_getI 12 h0 fl_X12_384 (by decide +kernel) dX12_lookSign_27 ?_
  refine tr_ifne (o := none) (tgt := 38) dX12_lookSign_30 (by decide) ?_ ?_
  · refine tr_iconst (v := 1) dX12_lookSign_38 (by decide +kernel) ?_
    refine tr_goto (tgt := 43) dX12_lookSign_39 (by decide) ?_
    refine tr_iconst (v := 4) dX12_lookSign_43 (by decide +kernel) ?_
    refine tr_c_wv (ms_cV (rest := []) (al := [.int 1, .int 4]) 12 (sp_X12_check G hG (d - 1) (by omega) σ l0 1 4 h0) h0 (by decide +kernel) kl_X12_410 fv_X12_check dX12_lookSign_44 (show _ = some 2 by decide +kernel) (by omega) (Nat.le_of_ble_eq_true rfl) (by decide) (by decide)) (fun s3 => ?_)
    refine tr_iload_n (i := 1) dX12_lookSign_47 rfl ?_
    exact tr_iret rfl rfl (by decide) (by decide) dX12_lookSign_48
  · refine tr_iload_n (i := 1) dX12_lookSign_33 rfl ?_
    refine tr_iconst (v := (-1)) dX12_lookSign_34 (by decide +kernel) ?_
    refine tr_iceq (o := none) (tgt := 42) dX12_lookSign_35 (by decide) ?_ ?_
    · refine tr_iconst (v := 0) dX12_lookSign_42 (by decide +kernel) ?_
      refine tr_iconst (v := 4) dX12_lookSign_43 (by decide +kernel) ?_
      refine tr_c_wv (ms_cV (rest := []) (al := [.int 0, .int 4]) 12 (sp_X12_check G hG (d - 1) (by omega) σ l0 0 4 h0) h0 (by decide +kernel) kl_X12_410 fv_X12_check dX12_lookSign_44 (show _ = some 2 by decide +kernel) (by omega) (Nat.le_of_ble_eq_true rfl) (by decide) (by decide)) (fun s4 => ?_)
      refine tr_iload_n (i := 1) dX12_lookSign_47 rfl ?_
      exact tr_iret rfl rfl (by decide) (by decide) dX12_lookSign_48
    · refine tr_iconst (v := 1) dX12_lookSign_38 (by decide +kernel) ?_
      refine tr_goto (tgt := 43) dX12_lookSign_39 (by decide) ?_
      refine tr_iconst (v := 4) dX12_lookSign_43 (by decide +kernel) ?_
      refine tr_c_wv (ms_cV (rest := []) (al := [.int 1, .int 4]) 12 (sp_X12_check G hG (d - 1) (by omega) σ l0 1 4 h0) h0 (by decide +kernel) kl_X12_410 fv_X12_check dX12_lookSign_44 (show _ = some 2 by decide +kernel) (by omega) (Nat.le_of_ble_eq_true rfl) (by decide) (by decide)) (fun s5 => ?_)
      refine tr_iload_n (i := 1) dX12_lookSign_47 rfl ?_
      exact tr_iret rfl rfl (by decide) (by decide) dX12_lookSign_48
set_option maxRecDepth 100000 in
theorem sp_X12_lookSign (G : MG) (hG : (g_l G).stackTraces = false) (d : Nat) (hd : 6 ≤ d)   (σ : MsSt) (l0 : Nat) (h0 : ms_kd l0 = 13) : MsSpec G mX12_lookSign d 0 0 [.ref l0] σ ms_wi (f_X12_lookSign σ l0) := by
  refine ms_start (by decide +kernel) rfl rfl (Nat.le_of_ble_eq_true rfl) ?_
  show TrO G mX12_lookSign d 0 0 0 0 ms_wi 0 [(0, .ref l0)] [] σ ((f_X12_isNameHere σ l0).bind fun v1 => (f_X12_check σ l0 v1 1).bind fun s2 => if (ms_i s2 l0 32) = 0 then (f_X12_named s2 l0).bind fun v6 => f_X12_lookSign_24 s2 l0 v6 else f_X12_lookSign_24 s2 l0 (-1))
  refine tr_aload_n (i := 0) dX12_lookSign_0 rfl ?_
  refine tr_aload_n (i := 0) dX12_lookSign_1 rfl ?_
  refine tr_c_i (ms_cV (rest := [.ref l0]) (al := []) 12 (sp_X12_isNameHere G hG (d - 1) (by omega) σ l0 h0) h0 (by decide +kernel) kl_X12_435 fv_X12_isNameHere dX12_lookSign_2 (show _ = some 0 by decide +kernel) (by omega) (Nat.le_of_ble_eq_true rfl) (by decide) (by decide)) (fun v1 => ?_)
  refine tr_iconst (v := 1) dX12_lookSign_5 (by decide +kernel) ?_
  refine tr_c_wv (ms_cV (rest := []) (al := [.int v1, .int 1]) 12 (sp_X12_check G hG (d - 1) (by omega) σ l0 v1 1 h0) h0 (by decide +kernel) kl_X12_410 fv_X12_check dX12_lookSign_6 (show _ = some 2 by decide +kernel) (by omega) (Nat.le_of_ble_eq_true rfl) (by decide) (by decide)) (fun s2 => ?_)
  refine tr_aload_n (i := 0) dX12_lookSign_9 rfl ?_
  refine tr_getI 12 h0 fl_X12_384 (by decide +kernel) dX12_lookSign_10 ?_
  refine tr_ifne (o := none) (tgt := 23) dX12_lookSign_13 (by decide) ?_ ?_
  · refine tr_iconst (v := (-1)) dX12_lookSign_23 (by decide +kernel) ?_
    exact t_X12_lookSign_24 G hG d hd s2 l0 (-1) h0
  · refine tr_aload_n (i := 0) dX12_lookSign_16 rfl ?_
    refine tr_c_i (ms_cV (rest := []) (al := []) 12 (sp_X12_named G hG (d - 1) (by omega) s2 l0 h0) h0 (by decide +kernel) kl_X12_439 fv_X12_named dX12_lookSign_17 (show _ = some 0 by decide +kernel) (by omega) (Nat.le_of_ble_eq_true rfl) (by decide) (by decide)) (fun v6 => ?_)
    refine tr_goto (tgt := 24) dX12_lookSign_20 (by decide) ?_
    exact t_X12_lookSign_24 G hG d hd s2 l0 v6 h0
theorem dX12_sideHere_0 : decode cX12_sideHere 0 = .ok (.aload_n 0, 1) := by decide +kernel
theorem dX12_sideHere_1 : decode cX12_sideHere 1 = .ok (.ldc_w 442, 3) := by decide +kernel
theorem dX12_sideHere_4 : decode cX12_sideHere 4 = .ok (.invokevirtual 406, 3) := by decide +kernel
theorem dX12_sideHere_7 : decode cX12_sideHere 7 = .ok (.ifCond .eq 7, 3) := by decide +kernel
theorem dX12_sideHere_10 : decode cX12_sideHere 10 = .ok (.iconst 0, 1) := by decide +kernel
theorem dX12_sideHere_11 : decode cX12_sideHere 11 = .ok (.goto 32, 3) := by decide +kernel
theorem dX12_sideHere_14 : decode cX12_sideHere 14 = .ok (.aload_n 0, 1) := by decide +kernel
theorem dX12_sideHere_15 : decode cX12_sideHere 15 = .ok (.ldc_w 444, 3) := by decide +kernel
theorem dX12_sideHere_18 : decode cX12_sideHere 18 = .ok (.invokevirtual 406, 3) := by decide +kernel
theorem dX12_sideHere_21 : decode cX12_sideHere 21 = .ok (.ifCond .eq 7, 3) := by decide +kernel
theorem dX12_sideHere_24 : decode cX12_sideHere 24 = .ok (.iconst 1, 1) := by decide +kernel
theorem dX12_sideHere_25 : decode cX12_sideHere 25 = .ok (.goto 18, 3) := by decide +kernel
theorem dX12_sideHere_28 : decode cX12_sideHere 28 = .ok (.aload_n 0, 1) := by decide +kernel
theorem dX12_sideHere_29 : decode cX12_sideHere 29 = .ok (.ldc_w 446, 3) := by decide +kernel
theorem dX12_sideHere_32 : decode cX12_sideHere 32 = .ok (.invokevirtual 406, 3) := by decide +kernel
theorem dX12_sideHere_35 : decode cX12_sideHere 35 = .ok (.ifCond .eq 7, 3) := by decide +kernel
theorem dX12_sideHere_38 : decode cX12_sideHere 38 = .ok (.iconst 2, 1) := by decide +kernel
theorem dX12_sideHere_39 : decode cX12_sideHere 39 = .ok (.goto 4, 3) := by decide +kernel
theorem dX12_sideHere_42 : decode cX12_sideHere 42 = .ok (.iconst (-1), 1) := by decide +kernel
theorem dX12_sideHere_43 : decode cX12_sideHere 43 = .ok (.ireturn, 1) := by decide +kernel
set_option maxRecDepth 100000 in
theorem sp_X12_sideHere (G : MG) (hG : (g_l G).stackTraces = false) (d : Nat) (hd : 5 ≤ d)   (σ : MsSt) (l0 : Nat) (h0 : ms_kd l0 = 13) : MsSpec G mX12_sideHere d 0 0 [.ref l0] σ (ms_ki σ) (f_X12_sideHere σ l0) := by
  refine ms_start (by decide +kernel) rfl rfl (Nat.le_of_ble_eq_true rfl) ?_
  show TrO G mX12_sideHere d 0 0 0 0 (ms_ki σ) 0 [(0, .ref l0)] [] σ ((f_X12_isWord σ l0 641).bind fun v1 => if v1 = 0 then (f_X12_isWord σ l0 642).bind fun v2 => if v2 = 0 then (f_X12_isWord σ l0 643).bind fun v3 => if v3 = 0 then some (-1) else some 2 else some 1 else some 0)
  refine tr_aload_n (i := 0) dX12_sideHere_0 rfl ?_
  refine tr_ldcsw 41 (tx := "above") (by decide) (by decide +kernel) dX12_sideHere_1 ?_
  refine tr_c_i (ms_cV (rest := []) (al := [.ref 641]) 12 (sp_X12_isWord G hG (d - 1) (by omega) σ l0 641 h0 (⟨by decide, by decide⟩)) h0 (by decide +kernel) kl_X12_406 fv_X12_isWord dX12_sideHere_4 (show _ = some 1 by decide +kernel) (by omega) (Nat.le_of_ble_eq_true rfl) (by decide) (by decide)) (fun v1 => ?_)
  refine tr_ifeq (o := none) (tgt := 14) dX12_sideHere_7 (by decide) ?_ ?_
  · refine tr_aload_n (i := 0) dX12_sideHere_14 rfl ?_
    refine tr_ldcsw 42 (tx := "below") (by decide) (by decide +kernel) dX12_sideHere_15 ?_
    refine tr_c_i (ms_cV (rest := []) (al := [.ref 642]) 12 (sp_X12_isWord G hG (d - 1) (by omega) σ l0 642 h0 (⟨by decide, by decide⟩)) h0 (by decide +kernel) kl_X12_406 fv_X12_isWord dX12_sideHere_18 (show _ = some 1 by decide +kernel) (by omega) (Nat.le_of_ble_eq_true rfl) (by decide) (by decide)) (fun v2 => ?_)
    refine tr_ifeq (o := none) (tgt := 28) dX12_sideHere_21 (by decide) ?_ ?_
    · refine tr_aload_n (i := 0) dX12_sideHere_28 rfl ?_
      refine tr_ldcsw 43 (tx := "through") (by decide) (by decide +kernel) dX12_sideHere_29 ?_
      refine tr_c_i (ms_cV (rest := []) (al := [.ref 643]) 12 (sp_X12_isWord G hG (d - 1) (by omega) σ l0 643 h0 (⟨by decide, by decide⟩)) h0 (by decide +kernel) kl_X12_406 fv_X12_isWord dX12_sideHere_32 (show _ = some 1 by decide +kernel) (by omega) (Nat.le_of_ble_eq_true rfl) (by decide) (by decide)) (fun v3 => ?_)
      refine tr_ifeq (o := none) (tgt := 42) dX12_sideHere_35 (by decide) ?_ ?_
      · refine tr_iconst (v := (-1)) dX12_sideHere_42 (by decide +kernel) ?_
        exact tr_iret rfl rfl (by decide) (by decide) dX12_sideHere_43
      · refine tr_iconst (v := 2) dX12_sideHere_38 (by decide +kernel) ?_
        refine tr_goto (tgt := 43) dX12_sideHere_39 (by decide) ?_
        exact tr_iret rfl rfl (by decide) (by decide) dX12_sideHere_43
    · refine tr_iconst (v := 1) dX12_sideHere_24 (by decide +kernel) ?_
      refine tr_goto (tgt := 43) dX12_sideHere_25 (by decide) ?_
      exact tr_iret rfl rfl (by decide) (by decide) dX12_sideHere_43
  · refine tr_iconst (v := 0) dX12_sideHere_10 (by decide +kernel) ?_
    refine tr_goto (tgt := 43) dX12_sideHere_11 (by decide) ?_
    exact tr_iret rfl rfl (by decide) (by decide) dX12_sideHere_43
theorem dX12_isSideOf_0 : decode cX12_isSideOf 0 = .ok (.iconst 0, 1) := by decide +kernel
theorem dX12_isSideOf_1 : decode cX12_isSideOf 1 = .ok (.istore_n 3, 1) := by decide +kernel
theorem dX12_isSideOf_2 : decode cX12_isSideOf 2 = .ok (.iload_n 3, 1) := by decide +kernel
theorem dX12_isSideOf_3 : decode cX12_isSideOf 3 = .ok (.aload_n 0, 1) := by decide +kernel
theorem dX12_isSideOf_4 : decode cX12_isSideOf 4 = .ok (.getfield 13, 3) := by decide +kernel
theorem dX12_isSideOf_7 : decode cX12_isSideOf 7 = .ok (.iconst 0, 1) := by decide +kernel
theorem dX12_isSideOf_8 : decode cX12_isSideOf 8 = .ok (.iaload, 1) := by decide +kernel
theorem dX12_isSideOf_9 : decode cX12_isSideOf 9 = .ok (.if_icmp .ge 54, 3) := by decide +kernel
theorem dX12_isSideOf_12 : decode cX12_isSideOf 12 = .ok (.aload_n 0, 1) := by decide +kernel
theorem dX12_isSideOf_13 : decode cX12_isSideOf 13 = .ok (.getfield 13, 3) := by decide +kernel
theorem dX12_isSideOf_16 : decode cX12_isSideOf 16 = .ok (.iload_n 3, 1) := by decide +kernel
theorem dX12_isSideOf_17 : decode cX12_isSideOf 17 = .ok (.iconst 0, 1) := by decide +kernel
theorem dX12_isSideOf_18 : decode cX12_isSideOf 18 = .ok (.invokestatic 114, 3) := by decide +kernel
theorem dX12_isSideOf_21 : decode cX12_isSideOf 21 = .ok (.iaload, 1) := by decide +kernel
theorem dX12_isSideOf_22 : decode cX12_isSideOf 22 = .ok (.iconst 1, 1) := by decide +kernel
theorem dX12_isSideOf_23 : decode cX12_isSideOf 23 = .ok (.if_icmp .ne 34, 3) := by decide +kernel
theorem dX12_isSideOf_26 : decode cX12_isSideOf 26 = .ok (.aload_n 0, 1) := by decide +kernel
theorem dX12_isSideOf_27 : decode cX12_isSideOf 27 = .ok (.getfield 13, 3) := by decide +kernel
theorem dX12_isSideOf_30 : decode cX12_isSideOf 30 = .ok (.iload_n 3, 1) := by decide +kernel
theorem dX12_isSideOf_31 : decode cX12_isSideOf 31 = .ok (.iconst 1, 1) := by decide +kernel
theorem dX12_isSideOf_32 : decode cX12_isSideOf 32 = .ok (.invokestatic 114, 3) := by decide +kernel
theorem dX12_isSideOf_35 : decode cX12_isSideOf 35 = .ok (.iaload, 1) := by decide +kernel
theorem dX12_isSideOf_36 : decode cX12_isSideOf 36 = .ok (.iload_n 1, 1) := by decide +kernel
theorem dX12_isSideOf_37 : decode cX12_isSideOf 37 = .ok (.if_icmp .ne 20, 3) := by decide +kernel
theorem dX12_isSideOf_40 : decode cX12_isSideOf 40 = .ok (.aload_n 0, 1) := by decide +kernel
theorem dX12_isSideOf_41 : decode cX12_isSideOf 41 = .ok (.getfield 13, 3) := by decide +kernel
theorem dX12_isSideOf_44 : decode cX12_isSideOf 44 = .ok (.iload_n 3, 1) := by decide +kernel
theorem dX12_isSideOf_45 : decode cX12_isSideOf 45 = .ok (.bipush 6, 2) := by decide +kernel
theorem dX12_isSideOf_47 : decode cX12_isSideOf 47 = .ok (.invokestatic 114, 3) := by decide +kernel
theorem dX12_isSideOf_50 : decode cX12_isSideOf 50 = .ok (.iaload, 1) := by decide +kernel
theorem dX12_isSideOf_51 : decode cX12_isSideOf 51 = .ok (.iload_n 2, 1) := by decide +kernel
theorem dX12_isSideOf_52 : decode cX12_isSideOf 52 = .ok (.if_icmp .eq 5, 3) := by decide +kernel
theorem dX12_isSideOf_55 : decode cX12_isSideOf 55 = .ok (.iconst 0, 1) := by decide +kernel
theorem dX12_isSideOf_56 : decode cX12_isSideOf 56 = .ok (.ireturn, 1) := by decide +kernel
theorem dX12_isSideOf_57 : decode cX12_isSideOf 57 = .ok (.iinc 3 1, 3) := by decide +kernel
theorem dX12_isSideOf_60 : decode cX12_isSideOf 60 = .ok (.goto (-58), 3) := by decide +kernel
theorem dX12_isSideOf_63 : decode cX12_isSideOf 63 = .ok (.iconst 1, 1) := by decide +kernel
theorem dX12_isSideOf_64 : decode cX12_isSideOf 64 = .ok (.ireturn, 1) := by decide +kernel
set_option maxRecDepth 100000 in
theorem t_X12_isSideOf_2 (G : MG) (hG : (g_l G).stackTraces = false) (d : Nat) (hd : 1 ≤ d)   (σ : MsSt)  : ∀ (n : Nat) (l0 : Nat) (l1 : Int32) (l2 : Int32) (l3 : Int32) (h0 : ms_kd l0 = 13), TrO G mX12_isSideOf d 0 0 0 0 (ms_ki σ) 2 [(0, .ref l0), (1, .int l1), (2, .int l2), (3, .int l3)] [] σ (f_X12_isSideOf_2 σ n l0 l1 l2 l3) := by
  intro n
  induction n with
  | zero => exact fun _ _ _ _ _ => tr_none
  | succ n ih =>
    intro l0 l1 l2 l3 h0
    show TrO G mX12_isSideOf d 0 0 0 0 (ms_ki σ) 2 [(0, .ref l0), (1, .int l1), (2, .int l2), (3, .int l3)] [] σ ((ms_ald σ (ms_rf l0 1) 0).bind fun v1 => if l3 < v1 then (f_X12_of σ l3 0).bind fun v2 => (ms_ald σ (ms_rf l0 1) v2).bind fun v3 => if v3 = 1 then (f_X12_of σ l3 1).bind fun v4 => (ms_ald σ (ms_rf l0 1) v4).bind fun v5 => if v5 = l1 then (f_X12_of σ l3 6).bind fun v6 => (ms_ald σ (ms_rf l0 1) v6).bind fun v7 => if v7 = l2 then (f_X12_isSideOf_2 σ n) l0 l1 l2 (l3 + 1) else some 0 else (f_X12_isSideOf_2 σ n) l0 l1 l2 (l3 + 1) else (f_X12_isSideOf_2 σ n) l0 l1 l2 (l3 + 1) else some 1)
    refine tr_iload_n (i := 3) dX12_isSideOf_2 rfl ?_
    refine tr_aload_n (i := 0) dX12_isSideOf_3 rfl ?_
    refine tr_getR 12 h0 fl_X12_13 (by decide +kernel) dX12_isSideOf_4 ?_
    refine tr_iconst (v := 0) dX12_isSideOf_7 (by decide +kernel) ?_
    refine tr_ald (rk_12_1 h0) dX12_isSideOf_8 (fun v1 => ?_)
    refine tr_icge (o := none) (tgt := 63) dX12_isSideOf_9 (by decide) ?_ ?_
    · refine tr_iconst (v := 1) dX12_isSideOf_63 (by decide +kernel) ?_
      exact tr_zret rfl (by decide +kernel) rfl (by decide) (by decide) dX12_isSideOf_64
    · refine tr_aload_n (i := 0) dX12_isSideOf_12 rfl ?_
      refine tr_getR 12 h0 fl_X12_13 (by decide +kernel) dX12_isSideOf_13 ?_
      refine tr_iload_n (i := 3) dX12_isSideOf_16 rfl ?_
      refine tr_iconst (v := 0) dX12_isSideOf_17 (by decide +kernel) ?_
      refine tr_c_i (ms_cS (rest := [.ref (ms_rf l0 1)]) (al := [.int l3, .int 0]) (sp_X12_of G hG (d - 1) (by omega) σ l3 0) kl_X12_114 fs_X12_of dX12_isSideOf_18 (show _ = some 2 by decide +kernel) (by omega) (Nat.le_of_ble_eq_true rfl) (by decide) (by decide)) (fun v2 => ?_)
      refine tr_ald (rk_12_1 h0) dX12_isSideOf_21 (fun v3 => ?_)
      refine tr_iconst (v := 1) dX12_isSideOf_22 (by decide +kernel) ?_
      refine tr_icne (o := none) (tgt := 57) dX12_isSideOf_23 (by decide) ?_ ?_
      · refine tr_iinc (k := 3) (v := (l3 + 1)) (lv' := [(0, .ref l0), (1, .int l1), (2, .int l2), (3, .int (l3 + 1))]) [1, 2, 3, 0] dX12_isSideOf_57 rfl rfl (by decide) rfl ?_
        refine tr_goto (tgt := 2) dX12_isSideOf_60 (by decide) ?_
        exact (fun y0 y1 y2 y3 g0 => ih y0 y1 y2 y3 g0) l0 l1 l2 (l3 + 1) h0
      · refine tr_aload_n (i := 0) dX12_isSideOf_26 rfl ?_
        refine tr_getR 12 h0 fl_X12_13 (by decide +kernel) dX12_isSideOf_27 ?_
        refine tr_iload_n (i := 3) dX12_isSideOf_30 rfl ?_
        refine tr_iconst (v := 1) dX12_isSideOf_31 (by decide +kernel) ?_
        refine tr_c_i (ms_cS (rest := [.ref (ms_rf l0 1)]) (al := [.int l3, .int 1]) (sp_X12_of G hG (d - 1) (by omega) σ l3 1) kl_X12_114 fs_X12_of dX12_isSideOf_32 (show _ = some 2 by decide +kernel) (by omega) (Nat.le_of_ble_eq_true rfl) (by decide) (by decide)) (fun v4 => ?_)
        refine tr_ald (rk_12_1 h0) dX12_isSideOf_35 (fun v5 => ?_)
        refine tr_iload_n (i := 1) dX12_isSideOf_36 rfl ?_
        refine tr_icne (o := none) (tgt := 57) dX12_isSideOf_37 (by decide) ?_ ?_
        · refine tr_iinc (k := 3) (v := (l3 + 1)) (lv' := [(0, .ref l0), (1, .int l1), (2, .int l2), (3, .int (l3 + 1))]) [1, 2, 3, 0] dX12_isSideOf_57 rfl rfl (by decide) rfl ?_
          refine tr_goto (tgt := 2) dX12_isSideOf_60 (by decide) ?_
          exact (fun y0 y1 y2 y3 g0 => ih y0 y1 y2 y3 g0) l0 l1 l2 (l3 + 1) h0
        · refine tr_aload_n (i := 0) dX12_isSideOf_40 rfl ?_
          refine tr_getR 12 h0 fl_X12_13 (by decide +kernel) dX12_isSideOf_41 ?_
          refine tr_iload_n (i := 3) dX12_isSideOf_44 rfl ?_
          refine tr_bipush (v := 6) dX12_isSideOf_45 (by decide +kernel) ?_
          refine tr_c_i (ms_cS (rest := [.ref (ms_rf l0 1)]) (al := [.int l3, .int 6]) (sp_X12_of G hG (d - 1) (by omega) σ l3 6) kl_X12_114 fs_X12_of dX12_isSideOf_47 (show _ = some 2 by decide +kernel) (by omega) (Nat.le_of_ble_eq_true rfl) (by decide) (by decide)) (fun v6 => ?_)
          refine tr_ald (rk_12_1 h0) dX12_isSideOf_50 (fun v7 => ?_)
          refine tr_iload_n (i := 2) dX12_isSideOf_51 rfl ?_
          refine tr_iceq (o := none) (tgt := 57) dX12_isSideOf_52 (by decide) ?_ ?_
          · refine tr_iinc (k := 3) (v := (l3 + 1)) (lv' := [(0, .ref l0), (1, .int l1), (2, .int l2), (3, .int (l3 + 1))]) [1, 2, 3, 0] dX12_isSideOf_57 rfl rfl (by decide) rfl ?_
            refine tr_goto (tgt := 2) dX12_isSideOf_60 (by decide) ?_
            exact (fun y0 y1 y2 y3 g0 => ih y0 y1 y2 y3 g0) l0 l1 l2 (l3 + 1) h0
          · refine tr_iconst (v := 0) dX12_isSideOf_55 (by decide +kernel) ?_
            exact tr_zret rfl (by decide +kernel) rfl (by decide) (by decide) dX12_isSideOf_56
set_option maxRecDepth 100000 in
theorem sp_X12_isSideOf (G : MG) (hG : (g_l G).stackTraces = false) (d : Nat) (hd : 1 ≤ d)   (σ : MsSt) (l0 : Nat) (l1 : Int32) (l2 : Int32) (h0 : ms_kd l0 = 13) : MsSpec G mX12_isSideOf d 0 0 [.ref l0, .int l1, .int l2] σ (ms_ki σ) (f_X12_isSideOf σ l0 l1 l2) := by
  refine ms_start (by decide +kernel) rfl rfl (Nat.le_of_ble_eq_true rfl) ?_
  show TrO G mX12_isSideOf d 0 0 0 0 (ms_ki σ) 0 [(0, .ref l0), (1, .int l1), (2, .int l2)] [] σ (f_X12_isSideOf_2 σ ms_fuel l0 l1 l2 0)
  refine tr_iconst (v := 0) dX12_isSideOf_0 (by decide +kernel) ?_
  refine tr_istore_n (lv' := [(0, .ref l0), (1, .int l1), (2, .int l2), (3, .int 0)]) [1, 2, 3, 0] dX12_isSideOf_1 (by decide) rfl ?_
  exact t_X12_isSideOf_2 G hG d hd σ ms_fuel l0 l1 l2 0 h0
theorem dX12_readBase_0 : decode cX12_readBase 0 = .ok (.aload_n 0, 1) := by decide +kernel
theorem dX12_readBase_1 : decode cX12_readBase 1 = .ok (.invokevirtual 448, 3) := by decide +kernel
theorem dX12_readBase_4 : decode cX12_readBase 4 = .ok (.aload_n 0, 1) := by decide +kernel
theorem dX12_readBase_5 : decode cX12_readBase 5 = .ok (.getfield 13, 3) := by decide +kernel
theorem dX12_readBase_8 : decode cX12_readBase 8 = .ok (.iload_n 1, 1) := by decide +kernel
theorem dX12_readBase_9 : decode cX12_readBase 9 = .ok (.iconst 3, 1) := by decide +kernel
theorem dX12_readBase_10 : decode cX12_readBase 10 = .ok (.invokestatic 114, 3) := by decide +kernel
theorem dX12_readBase_13 : decode cX12_readBase 13 = .ok (.aload_n 0, 1) := by decide +kernel
theorem dX12_readBase_14 : decode cX12_readBase 14 = .ok (.iconst 1, 1) := by decide +kernel
theorem dX12_readBase_15 : decode cX12_readBase 15 = .ok (.bipush 20, 2) := by decide +kernel
theorem dX12_readBase_17 : decode cX12_readBase 17 = .ok (.invokevirtual 451, 3) := by decide +kernel
theorem dX12_readBase_20 : decode cX12_readBase 20 = .ok (.iastore, 1) := by decide +kernel
theorem dX12_readBase_21 : decode cX12_readBase 21 = .ok (.aload_n 0, 1) := by decide +kernel
theorem dX12_readBase_22 : decode cX12_readBase 22 = .ok (.getfield 13, 3) := by decide +kernel
theorem dX12_readBase_25 : decode cX12_readBase 25 = .ok (.iload_n 1, 1) := by decide +kernel
theorem dX12_readBase_26 : decode cX12_readBase 26 = .ok (.iconst 4, 1) := by decide +kernel
theorem dX12_readBase_27 : decode cX12_readBase 27 = .ok (.invokestatic 114, 3) := by decide +kernel
theorem dX12_readBase_30 : decode cX12_readBase 30 = .ok (.aload_n 0, 1) := by decide +kernel
theorem dX12_readBase_31 : decode cX12_readBase 31 = .ok (.iconst 1, 1) := by decide +kernel
theorem dX12_readBase_32 : decode cX12_readBase 32 = .ok (.bipush 20, 2) := by decide +kernel
theorem dX12_readBase_34 : decode cX12_readBase 34 = .ok (.invokevirtual 451, 3) := by decide +kernel
theorem dX12_readBase_37 : decode cX12_readBase 37 = .ok (.iastore, 1) := by decide +kernel
theorem dX12_readBase_38 : decode cX12_readBase 38 = .ok (.aload_n 0, 1) := by decide +kernel
theorem dX12_readBase_39 : decode cX12_readBase 39 = .ok (.getfield 13, 3) := by decide +kernel
theorem dX12_readBase_42 : decode cX12_readBase 42 = .ok (.iload_n 1, 1) := by decide +kernel
theorem dX12_readBase_43 : decode cX12_readBase 43 = .ok (.iconst 5, 1) := by decide +kernel
theorem dX12_readBase_44 : decode cX12_readBase 44 = .ok (.invokestatic 114, 3) := by decide +kernel
theorem dX12_readBase_47 : decode cX12_readBase 47 = .ok (.aload_n 0, 1) := by decide +kernel
theorem dX12_readBase_48 : decode cX12_readBase 48 = .ok (.iconst 0, 1) := by decide +kernel
theorem dX12_readBase_49 : decode cX12_readBase 49 = .ok (.bipush 20, 2) := by decide +kernel
theorem dX12_readBase_51 : decode cX12_readBase 51 = .ok (.invokevirtual 451, 3) := by decide +kernel
theorem dX12_readBase_54 : decode cX12_readBase 54 = .ok (.iastore, 1) := by decide +kernel
theorem dX12_readBase_55 : decode cX12_readBase 55 = .ok (.aload_n 0, 1) := by decide +kernel
theorem dX12_readBase_56 : decode cX12_readBase 56 = .ok (.getfield 13, 3) := by decide +kernel
theorem dX12_readBase_59 : decode cX12_readBase 59 = .ok (.iload_n 1, 1) := by decide +kernel
theorem dX12_readBase_60 : decode cX12_readBase 60 = .ok (.bipush 6, 2) := by decide +kernel
theorem dX12_readBase_62 : decode cX12_readBase 62 = .ok (.invokestatic 114, 3) := by decide +kernel
theorem dX12_readBase_65 : decode cX12_readBase 65 = .ok (.aload_n 0, 1) := by decide +kernel
theorem dX12_readBase_66 : decode cX12_readBase 66 = .ok (.iconst 0, 1) := by decide +kernel
theorem dX12_readBase_67 : decode cX12_readBase 67 = .ok (.bipush 20, 2) := by decide +kernel
theorem dX12_readBase_69 : decode cX12_readBase 69 = .ok (.invokevirtual 451, 3) := by decide +kernel
theorem dX12_readBase_72 : decode cX12_readBase 72 = .ok (.iastore, 1) := by decide +kernel
theorem dX12_readBase_73 : decode cX12_readBase 73 = .ok (.return_, 1) := by decide +kernel
set_option maxRecDepth 100000 in
theorem sp_X12_readBase (G : MG) (hG : (g_l G).stackTraces = false) (d : Nat) (hd : 7 ≤ d)   (σ : MsSt) (l0 : Nat) (l1 : Int32) (h0 : ms_kd l0 = 13) : MsSpec G mX12_readBase d 0 0 [.ref l0, .int l1] σ ms_wv (f_X12_readBase σ l0 l1) := by
  refine ms_start (by decide +kernel) rfl rfl (Nat.le_of_ble_eq_true rfl) ?_
  show TrO G mX12_readBase d 0 0 0 0 ms_wv 0 [(0, .ref l0), (1, .int l1)] [] σ ((f_X12_readName σ l0).bind fun s1 => (f_X12_of s1 l1 3).bind fun v2 => ms_b2 (f_X12_readNumber s1 l0 1 20) fun v3 s4 => (ms_ast s4 (ms_rf l0 1) v2 v3).bind fun s5 => (f_X12_of s5 l1 4).bind fun v6 => ms_b2 (f_X12_readNumber s5 l0 1 20) fun v7 s8 => (ms_ast s8 (ms_rf l0 1) v6 v7).bind fun s9 => (f_X12_of s9 l1 5).bind fun v10 => ms_b2 (f_X12_readNumber s9 l0 0 20) fun v11 s12 => (ms_ast s12 (ms_rf l0 1) v10 v11).bind fun s13 => (f_X12_of s13 l1 6).bind fun v14 => ms_b2 (f_X12_readNumber s13 l0 0 20) fun v15 s16 => (ms_ast s16 (ms_rf l0 1) v14 v15).bind fun s17 => some s17)
  refine tr_aload_n (i := 0) dX12_readBase_0 rfl ?_
  refine tr_c_wv (ms_cV (rest := []) (al := []) 12 (sp_X12_readName G hG (d - 1) (by omega) σ l0 h0) h0 (by decide +kernel) kl_X12_448 fv_X12_readName dX12_readBase_1 (show _ = some 0 by decide +kernel) (by omega) (Nat.le_of_ble_eq_true rfl) (by decide) (by decide)) (fun s1 => ?_)
  refine tr_aload_n (i := 0) dX12_readBase_4 rfl ?_
  refine tr_getR 12 h0 fl_X12_13 (by decide +kernel) dX12_readBase_5 ?_
  refine tr_iload_n (i := 1) dX12_readBase_8 rfl ?_
  refine tr_iconst (v := 3) dX12_readBase_9 (by decide +kernel) ?_
  refine tr_c_i (ms_cS (rest := [.ref (ms_rf l0 1)]) (al := [.int l1, .int 3]) (sp_X12_of G hG (d - 1) (by omega) s1 l1 3) kl_X12_114 fs_X12_of dX12_readBase_10 (show _ = some 2 by decide +kernel) (by omega) (Nat.le_of_ble_eq_true rfl) (by decide) (by decide)) (fun v2 => ?_)
  refine tr_aload_n (i := 0) dX12_readBase_13 rfl ?_
  refine tr_iconst (v := 1) dX12_readBase_14 (by decide +kernel) ?_
  refine tr_bipush (v := 20) dX12_readBase_15 (by decide +kernel) ?_
  refine tr_d_wi (ms_cV (rest := [.int v2, .ref (ms_rf l0 1)]) (al := [.int 1, .int 20]) 12 (sp_X12_readNumber G hG (d - 1) (by omega) s1 l0 1 20 h0) h0 (by decide +kernel) kl_X12_451 fv_X12_readNumber dX12_readBase_17 (show _ = some 2 by decide +kernel) (by omega) (Nat.le_of_ble_eq_true rfl) (by decide) (by decide)) (fun v3 s4 => ?_)
  refine tr_ast (rk_12_1 h0) dX12_readBase_20 (fun s5 => ?_)
  refine tr_aload_n (i := 0) dX12_readBase_21 rfl ?_
  refine tr_getR 12 h0 fl_X12_13 (by decide +kernel) dX12_readBase_22 ?_
  refine tr_iload_n (i := 1) dX12_readBase_25 rfl ?_
  refine tr_iconst (v := 4) dX12_readBase_26 (by decide +kernel) ?_
  refine tr_c_i (ms_cS (rest := [.ref (ms_rf l0 1)]) (al := [.int l1, .int 4]) (sp_X12_of G hG (d - 1) (by omega) s5 l1 4) kl_X12_114 fs_X12_of dX12_readBase_27 (show _ = some 2 by decide +kernel) (by omega) (Nat.le_of_ble_eq_true rfl) (by decide) (by decide)) (fun v6 => ?_)
  refine tr_aload_n (i := 0) dX12_readBase_30 rfl ?_
  refine tr_iconst (v := 1) dX12_readBase_31 (by decide +kernel) ?_
  refine tr_bipush (v := 20) dX12_readBase_32 (by decide +kernel) ?_
  refine tr_d_wi (ms_cV (rest := [.int v6, .ref (ms_rf l0 1)]) (al := [.int 1, .int 20]) 12 (sp_X12_readNumber G hG (d - 1) (by omega) s5 l0 1 20 h0) h0 (by decide +kernel) kl_X12_451 fv_X12_readNumber dX12_readBase_34 (show _ = some 2 by decide +kernel) (by omega) (Nat.le_of_ble_eq_true rfl) (by decide) (by decide)) (fun v7 s8 => ?_)
  refine tr_ast (rk_12_1 h0) dX12_readBase_37 (fun s9 => ?_)
  refine tr_aload_n (i := 0) dX12_readBase_38 rfl ?_
  refine tr_getR 12 h0 fl_X12_13 (by decide +kernel) dX12_readBase_39 ?_
  refine tr_iload_n (i := 1) dX12_readBase_42 rfl ?_
  refine tr_iconst (v := 5) dX12_readBase_43 (by decide +kernel) ?_
  refine tr_c_i (ms_cS (rest := [.ref (ms_rf l0 1)]) (al := [.int l1, .int 5]) (sp_X12_of G hG (d - 1) (by omega) s9 l1 5) kl_X12_114 fs_X12_of dX12_readBase_44 (show _ = some 2 by decide +kernel) (by omega) (Nat.le_of_ble_eq_true rfl) (by decide) (by decide)) (fun v10 => ?_)
  refine tr_aload_n (i := 0) dX12_readBase_47 rfl ?_
  refine tr_iconst (v := 0) dX12_readBase_48 (by decide +kernel) ?_
  refine tr_bipush (v := 20) dX12_readBase_49 (by decide +kernel) ?_
  refine tr_d_wi (ms_cV (rest := [.int v10, .ref (ms_rf l0 1)]) (al := [.int 0, .int 20]) 12 (sp_X12_readNumber G hG (d - 1) (by omega) s9 l0 0 20 h0) h0 (by decide +kernel) kl_X12_451 fv_X12_readNumber dX12_readBase_51 (show _ = some 2 by decide +kernel) (by omega) (Nat.le_of_ble_eq_true rfl) (by decide) (by decide)) (fun v11 s12 => ?_)
  refine tr_ast (rk_12_1 h0) dX12_readBase_54 (fun s13 => ?_)
  refine tr_aload_n (i := 0) dX12_readBase_55 rfl ?_
  refine tr_getR 12 h0 fl_X12_13 (by decide +kernel) dX12_readBase_56 ?_
  refine tr_iload_n (i := 1) dX12_readBase_59 rfl ?_
  refine tr_bipush (v := 6) dX12_readBase_60 (by decide +kernel) ?_
  refine tr_c_i (ms_cS (rest := [.ref (ms_rf l0 1)]) (al := [.int l1, .int 6]) (sp_X12_of G hG (d - 1) (by omega) s13 l1 6) kl_X12_114 fs_X12_of dX12_readBase_62 (show _ = some 2 by decide +kernel) (by omega) (Nat.le_of_ble_eq_true rfl) (by decide) (by decide)) (fun v14 => ?_)
  refine tr_aload_n (i := 0) dX12_readBase_65 rfl ?_
  refine tr_iconst (v := 0) dX12_readBase_66 (by decide +kernel) ?_
  refine tr_bipush (v := 20) dX12_readBase_67 (by decide +kernel) ?_
  refine tr_d_wi (ms_cV (rest := [.int v14, .ref (ms_rf l0 1)]) (al := [.int 0, .int 20]) 12 (sp_X12_readNumber G hG (d - 1) (by omega) s13 l0 0 20 h0) h0 (by decide +kernel) kl_X12_451 fv_X12_readNumber dX12_readBase_69 (show _ = some 2 by decide +kernel) (by omega) (Nat.le_of_ble_eq_true rfl) (by decide) (by decide)) (fun v15 s16 => ?_)
  refine tr_ast (rk_12_1 h0) dX12_readBase_72 (fun s17 => ?_)
  exact tr_vret rfl rfl (by decide) (by decide) dX12_readBase_73
theorem dX12_readMark_0 : decode cX12_readMark 0 = .ok (.aload_n 0, 1) := by decide +kernel
theorem dX12_readMark_1 : decode cX12_readMark 1 = .ok (.invokevirtual 448, 3) := by decide +kernel
theorem dX12_readMark_4 : decode cX12_readMark 4 = .ok (.aload_n 0, 1) := by decide +kernel
theorem dX12_readMark_5 : decode cX12_readMark 5 = .ok (.iconst 1, 1) := by decide +kernel
theorem dX12_readMark_6 : decode cX12_readMark 6 = .ok (.bipush 60, 2) := by decide +kernel
theorem dX12_readMark_8 : decode cX12_readMark 8 = .ok (.invokevirtual 451, 3) := by decide +kernel
theorem dX12_readMark_11 : decode cX12_readMark 11 = .ok (.istore_n 2, 1) := by decide +kernel
theorem dX12_readMark_12 : decode cX12_readMark 12 = .ok (.aload_n 0, 1) := by decide +kernel
theorem dX12_readMark_13 : decode cX12_readMark 13 = .ok (.invokevirtual 454, 3) := by decide +kernel
theorem dX12_readMark_16 : decode cX12_readMark 16 = .ok (.istore_n 3, 1) := by decide +kernel
theorem dX12_readMark_17 : decode cX12_readMark 17 = .ok (.aload_n 0, 1) := by decide +kernel
theorem dX12_readMark_18 : decode cX12_readMark 18 = .ok (.iload_n 3, 1) := by decide +kernel
theorem dX12_readMark_19 : decode cX12_readMark 19 = .ok (.iconst (-1), 1) := by decide +kernel
theorem dX12_readMark_20 : decode cX12_readMark 20 = .ok (.if_icmp .eq 7, 3) := by decide +kernel
theorem dX12_readMark_23 : decode cX12_readMark 23 = .ok (.iconst 1, 1) := by decide +kernel
theorem dX12_readMark_24 : decode cX12_readMark 24 = .ok (.goto 4, 3) := by decide +kernel
theorem dX12_readMark_27 : decode cX12_readMark 27 = .ok (.iconst 0, 1) := by decide +kernel
theorem dX12_readMark_28 : decode cX12_readMark 28 = .ok (.iconst 1, 1) := by decide +kernel
theorem dX12_readMark_29 : decode cX12_readMark 29 = .ok (.invokevirtual 410, 3) := by decide +kernel
theorem dX12_readMark_32 : decode cX12_readMark 32 = .ok (.aload_n 0, 1) := by decide +kernel
theorem dX12_readMark_33 : decode cX12_readMark 33 = .ok (.aload_n 0, 1) := by decide +kernel
theorem dX12_readMark_34 : decode cX12_readMark 34 = .ok (.getfield 384, 3) := by decide +kernel
theorem dX12_readMark_37 : decode cX12_readMark 37 = .ok (.ifCond .ne 12, 3) := by decide +kernel
theorem dX12_readMark_40 : decode cX12_readMark 40 = .ok (.aload_n 0, 1) := by decide +kernel
theorem dX12_readMark_41 : decode cX12_readMark 41 = .ok (.iload_n 2, 1) := by decide +kernel
theorem dX12_readMark_42 : decode cX12_readMark 42 = .ok (.iload_n 3, 1) := by decide +kernel
theorem dX12_readMark_43 : decode cX12_readMark 43 = .ok (.invokevirtual 457, 3) := by decide +kernel
theorem dX12_readMark_46 : decode cX12_readMark 46 = .ok (.ifCond .eq 7, 3) := by decide +kernel
theorem dX12_readMark_49 : decode cX12_readMark 49 = .ok (.iconst 1, 1) := by decide +kernel
theorem dX12_readMark_50 : decode cX12_readMark 50 = .ok (.goto 4, 3) := by decide +kernel
theorem dX12_readMark_53 : decode cX12_readMark 53 = .ok (.iconst 0, 1) := by decide +kernel
theorem dX12_readMark_54 : decode cX12_readMark 54 = .ok (.iconst 4, 1) := by decide +kernel
theorem dX12_readMark_55 : decode cX12_readMark 55 = .ok (.invokevirtual 410, 3) := by decide +kernel
theorem dX12_readMark_58 : decode cX12_readMark 58 = .ok (.aload_n 0, 1) := by decide +kernel
theorem dX12_readMark_59 : decode cX12_readMark 59 = .ok (.invokevirtual 414, 3) := by decide +kernel
theorem dX12_readMark_62 : decode cX12_readMark 62 = .ok (.aload_n 0, 1) := by decide +kernel
theorem dX12_readMark_63 : decode cX12_readMark 63 = .ok (.getfield 13, 3) := by decide +kernel
theorem dX12_readMark_66 : decode cX12_readMark 66 = .ok (.iload_n 1, 1) := by decide +kernel
theorem dX12_readMark_67 : decode cX12_readMark 67 = .ok (.iconst 0, 1) := by decide +kernel
theorem dX12_readMark_68 : decode cX12_readMark 68 = .ok (.invokestatic 114, 3) := by decide +kernel
theorem dX12_readMark_71 : decode cX12_readMark 71 = .ok (.iconst 1, 1) := by decide +kernel
theorem dX12_readMark_72 : decode cX12_readMark 72 = .ok (.iastore, 1) := by decide +kernel
theorem dX12_readMark_73 : decode cX12_readMark 73 = .ok (.aload_n 0, 1) := by decide +kernel
theorem dX12_readMark_74 : decode cX12_readMark 74 = .ok (.getfield 13, 3) := by decide +kernel
theorem dX12_readMark_77 : decode cX12_readMark 77 = .ok (.iload_n 1, 1) := by decide +kernel
theorem dX12_readMark_78 : decode cX12_readMark 78 = .ok (.iconst 1, 1) := by decide +kernel
theorem dX12_readMark_79 : decode cX12_readMark 79 = .ok (.invokestatic 114, 3) := by decide +kernel
theorem dX12_readMark_82 : decode cX12_readMark 82 = .ok (.iload_n 2, 1) := by decide +kernel
theorem dX12_readMark_83 : decode cX12_readMark 83 = .ok (.iastore, 1) := by decide +kernel
theorem dX12_readMark_84 : decode cX12_readMark 84 = .ok (.aload_n 0, 1) := by decide +kernel
theorem dX12_readMark_85 : decode cX12_readMark 85 = .ok (.getfield 13, 3) := by decide +kernel
theorem dX12_readMark_88 : decode cX12_readMark 88 = .ok (.iload_n 1, 1) := by decide +kernel
theorem dX12_readMark_89 : decode cX12_readMark 89 = .ok (.iconst 3, 1) := by decide +kernel
theorem dX12_readMark_90 : decode cX12_readMark 90 = .ok (.invokestatic 114, 3) := by decide +kernel
theorem dX12_readMark_93 : decode cX12_readMark 93 = .ok (.aload_n 0, 1) := by decide +kernel
theorem dX12_readMark_94 : decode cX12_readMark 94 = .ok (.iconst 1, 1) := by decide +kernel
theorem dX12_readMark_95 : decode cX12_readMark 95 = .ok (.bipush 9, 2) := by decide +kernel
theorem dX12_readMark_97 : decode cX12_readMark 97 = .ok (.invokevirtual 451, 3) := by decide +kernel
theorem dX12_readMark_100 : decode cX12_readMark 100 = .ok (.iastore, 1) := by decide +kernel
theorem dX12_readMark_101 : decode cX12_readMark 101 = .ok (.aload_n 0, 1) := by decide +kernel
theorem dX12_readMark_102 : decode cX12_readMark 102 = .ok (.getfield 13, 3) := by decide +kernel
theorem dX12_readMark_105 : decode cX12_readMark 105 = .ok (.iload_n 1, 1) := by decide +kernel
theorem dX12_readMark_106 : decode cX12_readMark 106 = .ok (.iconst 4, 1) := by decide +kernel
theorem dX12_readMark_107 : decode cX12_readMark 107 = .ok (.invokestatic 114, 3) := by decide +kernel
theorem dX12_readMark_110 : decode cX12_readMark 110 = .ok (.aload_n 0, 1) := by decide +kernel
theorem dX12_readMark_111 : decode cX12_readMark 111 = .ok (.iconst 1, 1) := by decide +kernel
theorem dX12_readMark_112 : decode cX12_readMark 112 = .ok (.bipush 9, 2) := by decide +kernel
theorem dX12_readMark_114 : decode cX12_readMark 114 = .ok (.invokevirtual 451, 3) := by decide +kernel
theorem dX12_readMark_117 : decode cX12_readMark 117 = .ok (.iastore, 1) := by decide +kernel
theorem dX12_readMark_118 : decode cX12_readMark 118 = .ok (.aload_n 0, 1) := by decide +kernel
theorem dX12_readMark_119 : decode cX12_readMark 119 = .ok (.getfield 13, 3) := by decide +kernel
theorem dX12_readMark_122 : decode cX12_readMark 122 = .ok (.iload_n 1, 1) := by decide +kernel
theorem dX12_readMark_123 : decode cX12_readMark 123 = .ok (.iconst 5, 1) := by decide +kernel
theorem dX12_readMark_124 : decode cX12_readMark 124 = .ok (.invokestatic 114, 3) := by decide +kernel
theorem dX12_readMark_127 : decode cX12_readMark 127 = .ok (.aload_n 0, 1) := by decide +kernel
theorem dX12_readMark_128 : decode cX12_readMark 128 = .ok (.iconst 0, 1) := by decide +kernel
theorem dX12_readMark_129 : decode cX12_readMark 129 = .ok (.bipush 9, 2) := by decide +kernel
theorem dX12_readMark_131 : decode cX12_readMark 131 = .ok (.invokevirtual 451, 3) := by decide +kernel
theorem dX12_readMark_134 : decode cX12_readMark 134 = .ok (.iastore, 1) := by decide +kernel
theorem dX12_readMark_135 : decode cX12_readMark 135 = .ok (.aload_n 0, 1) := by decide +kernel
theorem dX12_readMark_136 : decode cX12_readMark 136 = .ok (.getfield 13, 3) := by decide +kernel
theorem dX12_readMark_139 : decode cX12_readMark 139 = .ok (.iload_n 1, 1) := by decide +kernel
theorem dX12_readMark_140 : decode cX12_readMark 140 = .ok (.bipush 6, 2) := by decide +kernel
theorem dX12_readMark_142 : decode cX12_readMark 142 = .ok (.invokestatic 114, 3) := by decide +kernel
theorem dX12_readMark_145 : decode cX12_readMark 145 = .ok (.iload_n 3, 1) := by decide +kernel
theorem dX12_readMark_146 : decode cX12_readMark 146 = .ok (.iastore, 1) := by decide +kernel
theorem dX12_readMark_147 : decode cX12_readMark 147 = .ok (.return_, 1) := by decide +kernel
set_option maxRecDepth 100000 in
theorem t_X12_readMark_54 (G : MG) (hG : (g_l G).stackTraces = false) (d : Nat) (hd : 7 ≤ d)    (σ : MsSt) (l0 : Nat) (l1 : Int32) (l2 : Int32) (l3 : Int32) (t0 : Int32) (t1 : Nat) (h0 : ms_kd l0 = 13) (ht1 : ms_kd t1 = 13) : TrO G mX12_readMark d 0 0 0 0 ms_wv 54 [(0, .ref l0), (1, .int l1), (2, .int l2), (3, .int l3)] [.int t0, .ref t1] σ (f_X12_readMark_54 σ l0 l1 l2 l3 t0 t1) := by
  show TrO G mX12_readMark d 0 0 0 0 ms_wv 54 [(0, .ref l0), (1, .int l1), (2, .int l2), (3, .int l3)] [.int t0, .ref t1] σ ((f_X12_check σ t1 t0 4).bind fun s6 => (f_X12_advance s6 l0).bind fun s7 => (f_X12_of s7 l1 0).bind fun v8 => (ms_ast s7 (ms_rf l0 1) v8 1).bind fun s9 => (f_X12_of s9 l1 1).bind fun v10 => (ms_ast s9 (ms_rf l0 1) v10 l2).bind fun s11 => (f_X12_of s11 l1 3).bind fun v12 => ms_b2 (f_X12_readNumber s11 l0 1 9) fun v13 s14 => (ms_ast s14 (ms_rf l0 1) v12 v13).bind fun s15 => (f_X12_of s15 l1 4).bind fun v16 => ms_b2 (f_X12_readNumber s15 l0 1 9) fun v17 s18 => (ms_ast s18 (ms_rf l0 1) v16 v17).bind fun s19 => (f_X12_of s19 l1 5).bind fun v20 => ms_b2 (f_X12_readNumber s19 l0 0 9) fun v21 s22 => (ms_ast s22 (ms_rf l0 1) v20 v21).bind fun s23 => (f_X12_of s23 l1 6).bind fun v24 => (ms_ast s23 (ms_rf l0 1) v24 l3).bind fun s25 => some s25)
  refine tr_iconst (v := 4) dX12_readMark_54 (by decide +kernel) ?_
  refine tr_c_wv (ms_cV (rest := []) (al := [.int t0, .int 4]) 12 (sp_X12_check G hG (d - 1) (by omega) σ t1 t0 4 ht1) ht1 (by decide +kernel) kl_X12_410 fv_X12_check dX12_readMark_55 (show _ = some 2 by decide +kernel) (by omega) (Nat.le_of_ble_eq_true rfl) (by decide) (by decide)) (fun s6 => ?_)
  refine tr_aload_n (i := 0) dX12_readMark_58 rfl ?_
  refine tr_c_wv (ms_cV (rest := []) (al := []) 12 (sp_X12_advance G hG (d - 1) (by omega) s6 l0 h0) h0 (by decide +kernel) kl_X12_414 fv_X12_advance dX12_readMark_59 (show _ = some 0 by decide +kernel) (by omega) (Nat.le_of_ble_eq_true rfl) (by decide) (by decide)) (fun s7 => ?_)
  refine tr_aload_n (i := 0) dX12_readMark_62 rfl ?_
  refine tr_getR 12 h0 fl_X12_13 (by decide +kernel) dX12_readMark_63 ?_
  refine tr_iload_n (i := 1) dX12_readMark_66 rfl ?_
  refine tr_iconst (v := 0) dX12_readMark_67 (by decide +kernel) ?_
  refine tr_c_i (ms_cS (rest := [.ref (ms_rf l0 1)]) (al := [.int l1, .int 0]) (sp_X12_of G hG (d - 1) (by omega) s7 l1 0) kl_X12_114 fs_X12_of dX12_readMark_68 (show _ = some 2 by decide +kernel) (by omega) (Nat.le_of_ble_eq_true rfl) (by decide) (by decide)) (fun v8 => ?_)
  refine tr_iconst (v := 1) dX12_readMark_71 (by decide +kernel) ?_
  refine tr_ast (rk_12_1 h0) dX12_readMark_72 (fun s9 => ?_)
  refine tr_aload_n (i := 0) dX12_readMark_73 rfl ?_
  refine tr_getR 12 h0 fl_X12_13 (by decide +kernel) dX12_readMark_74 ?_
  refine tr_iload_n (i := 1) dX12_readMark_77 rfl ?_
  refine tr_iconst (v := 1) dX12_readMark_78 (by decide +kernel) ?_
  refine tr_c_i (ms_cS (rest := [.ref (ms_rf l0 1)]) (al := [.int l1, .int 1]) (sp_X12_of G hG (d - 1) (by omega) s9 l1 1) kl_X12_114 fs_X12_of dX12_readMark_79 (show _ = some 2 by decide +kernel) (by omega) (Nat.le_of_ble_eq_true rfl) (by decide) (by decide)) (fun v10 => ?_)
  refine tr_iload_n (i := 2) dX12_readMark_82 rfl ?_
  refine tr_ast (rk_12_1 h0) dX12_readMark_83 (fun s11 => ?_)
  refine tr_aload_n (i := 0) dX12_readMark_84 rfl ?_
  refine tr_getR 12 h0 fl_X12_13 (by decide +kernel) dX12_readMark_85 ?_
  refine tr_iload_n (i := 1) dX12_readMark_88 rfl ?_
  refine tr_iconst (v := 3) dX12_readMark_89 (by decide +kernel) ?_
  refine tr_c_i (ms_cS (rest := [.ref (ms_rf l0 1)]) (al := [.int l1, .int 3]) (sp_X12_of G hG (d - 1) (by omega) s11 l1 3) kl_X12_114 fs_X12_of dX12_readMark_90 (show _ = some 2 by decide +kernel) (by omega) (Nat.le_of_ble_eq_true rfl) (by decide) (by decide)) (fun v12 => ?_)
  refine tr_aload_n (i := 0) dX12_readMark_93 rfl ?_
  refine tr_iconst (v := 1) dX12_readMark_94 (by decide +kernel) ?_
  refine tr_bipush (v := 9) dX12_readMark_95 (by decide +kernel) ?_
  refine tr_d_wi (ms_cV (rest := [.int v12, .ref (ms_rf l0 1)]) (al := [.int 1, .int 9]) 12 (sp_X12_readNumber G hG (d - 1) (by omega) s11 l0 1 9 h0) h0 (by decide +kernel) kl_X12_451 fv_X12_readNumber dX12_readMark_97 (show _ = some 2 by decide +kernel) (by omega) (Nat.le_of_ble_eq_true rfl) (by decide) (by decide)) (fun v13 s14 => ?_)
  refine tr_ast (rk_12_1 h0) dX12_readMark_100 (fun s15 => ?_)
  refine tr_aload_n (i := 0) dX12_readMark_101 rfl ?_
  refine tr_getR 12 h0 fl_X12_13 (by decide +kernel) dX12_readMark_102 ?_
  refine tr_iload_n (i := 1) dX12_readMark_105 rfl ?_
  refine tr_iconst (v := 4) dX12_readMark_106 (by decide +kernel) ?_
  refine tr_c_i (ms_cS (rest := [.ref (ms_rf l0 1)]) (al := [.int l1, .int 4]) (sp_X12_of G hG (d - 1) (by omega) s15 l1 4) kl_X12_114 fs_X12_of dX12_readMark_107 (show _ = some 2 by decide +kernel) (by omega) (Nat.le_of_ble_eq_true rfl) (by decide) (by decide)) (fun v16 => ?_)
  refine tr_aload_n (i := 0) dX12_readMark_110 rfl ?_
  refine tr_iconst (v := 1) dX12_readMark_111 (by decide +kernel) ?_
  refine tr_bipush (v := 9) dX12_readMark_112 (by decide +kernel) ?_
  refine tr_d_wi (ms_cV (rest := [.int v16, .ref (ms_rf l0 1)]) (al := [.int 1, .int 9]) 12 (sp_X12_readNumber G hG (d - 1) (by omega) s15 l0 1 9 h0) h0 (by decide +kernel) kl_X12_451 fv_X12_readNumber dX12_readMark_114 (show _ = some 2 by decide +kernel) (by omega) (Nat.le_of_ble_eq_true rfl) (by decide) (by decide)) (fun v17 s18 => ?_)
  refine tr_ast (rk_12_1 h0) dX12_readMark_117 (fun s19 => ?_)
  refine tr_aload_n (i := 0) dX12_readMark_118 rfl ?_
  refine tr_getR 12 h0 fl_X12_13 (by decide +kernel) dX12_readMark_119 ?_
  refine tr_iload_n (i := 1) dX12_readMark_122 rfl ?_
  refine tr_iconst (v := 5) dX12_readMark_123 (by decide +kernel) ?_
  refine tr_c_i (ms_cS (rest := [.ref (ms_rf l0 1)]) (al := [.int l1, .int 5]) (sp_X12_of G hG (d - 1) (by omega) s19 l1 5) kl_X12_114 fs_X12_of dX12_readMark_124 (show _ = some 2 by decide +kernel) (by omega) (Nat.le_of_ble_eq_true rfl) (by decide) (by decide)) (fun v20 => ?_)
  refine tr_aload_n (i := 0) dX12_readMark_127 rfl ?_
  refine tr_iconst (v := 0) dX12_readMark_128 (by decide +kernel) ?_
  refine tr_bipush (v := 9) dX12_readMark_129 (by decide +kernel) ?_
  refine tr_d_wi (ms_cV (rest := [.int v20, .ref (ms_rf l0 1)]) (al := [.int 0, .int 9]) 12 (sp_X12_readNumber G hG (d - 1) (by omega) s19 l0 0 9 h0) h0 (by decide +kernel) kl_X12_451 fv_X12_readNumber dX12_readMark_131 (show _ = some 2 by decide +kernel) (by omega) (Nat.le_of_ble_eq_true rfl) (by decide) (by decide)) (fun v21 s22 => ?_)
  refine tr_ast (rk_12_1 h0) dX12_readMark_134 (fun s23 => ?_)
  refine tr_aload_n (i := 0) dX12_readMark_135 rfl ?_
  refine tr_getR 12 h0 fl_X12_13 (by decide +kernel) dX12_readMark_136 ?_
  refine tr_iload_n (i := 1) dX12_readMark_139 rfl ?_
  refine tr_bipush (v := 6) dX12_readMark_140 (by decide +kernel) ?_
  refine tr_c_i (ms_cS (rest := [.ref (ms_rf l0 1)]) (al := [.int l1, .int 6]) (sp_X12_of G hG (d - 1) (by omega) s23 l1 6) kl_X12_114 fs_X12_of dX12_readMark_142 (show _ = some 2 by decide +kernel) (by omega) (Nat.le_of_ble_eq_true rfl) (by decide) (by decide)) (fun v24 => ?_)
  refine tr_iload_n (i := 3) dX12_readMark_145 rfl ?_
  refine tr_ast (rk_12_1 h0) dX12_readMark_146 (fun s25 => ?_)
  exact tr_vret rfl rfl (by decide) (by decide) dX12_readMark_147
set_option maxRecDepth 100000 in
theorem t_X12_readMark_49 (G : MG) (hG : (g_l G).stackTraces = false) (d : Nat) (hd : 7 ≤ d)    (σ : MsSt) (l0 : Nat) (l1 : Int32) (l2 : Int32) (l3 : Int32) (t0 : Nat) (h0 : ms_kd l0 = 13) (ht0 : ms_kd t0 = 13) : TrO G mX12_readMark d 0 0 0 0 ms_wv 49 [(0, .ref l0), (1, .int l1), (2, .int l2), (3, .int l3)] [.ref t0] σ (f_X12_readMark_49 σ l0 l1 l2 l3 t0) := by
  show TrO G mX12_readMark d 0 0 0 0 ms_wv 49 [(0, .ref l0), (1, .int l1), (2, .int l2), (3, .int l3)] [.ref t0] σ (f_X12_readMark_54 σ l0 l1 l2 l3 1 t0)
  refine tr_iconst (v := 1) dX12_readMark_49 (by decide +kernel) ?_
  refine tr_goto (tgt := 54) dX12_readMark_50 (by decide) ?_
  exact t_X12_readMark_54 G hG d hd σ l0 l1 l2 l3 1 t0 h0 ht0
set_option maxRecDepth 100000 in
theorem t_X12_readMark_28 (G : MG) (hG : (g_l G).stackTraces = false) (d : Nat) (hd : 7 ≤ d)    (σ : MsSt) (l0 : Nat) (l1 : Int32) (l2 : Int32) (l3 : Int32) (t0 : Int32) (t1 : Nat) (h0 : ms_kd l0 = 13) (ht1 : ms_kd t1 = 13) : TrO G mX12_readMark d 0 0 0 0 ms_wv 28 [(0, .ref l0), (1, .int l1), (2, .int l2), (3, .int l3)] [.int t0, .ref t1] σ (f_X12_readMark_28 σ l0 l1 l2 l3 t0 t1) := by
  show TrO G mX12_readMark d 0 0 0 0 ms_wv 28 [(0, .ref l0), (1, .int l1), (2, .int l2), (3, .int l3)] [.int t0, .ref t1] σ ((f_X12_check σ t1 t0 1).bind fun s5 => if (ms_i s5 l0 32) = 0 then (f_X12_isSideOf s5 l0 l2 l3).bind fun v26 => if v26 = 0 then f_X12_readMark_54 s5 l0 l1 l2 l3 0 l0 else f_X12_readMark_49 s5 l0 l1 l2 l3 l0 else f_X12_readMark_49 s5 l0 l1 l2 l3 l0)
  refine tr_iconst (v := 1) dX12_readMark_28 (by decide +kernel) ?_
  refine tr_c_wv (ms_cV (rest := []) (al := [.int t0, .int 1]) 12 (sp_X12_check G hG (d - 1) (by omega) σ t1 t0 1 ht1) ht1 (by decide +kernel) kl_X12_410 fv_X12_check dX12_readMark_29 (show _ = some 2 by decide +kernel) (by omega) (Nat.le_of_ble_eq_true rfl) (by decide) (by decide)) (fun s5 => ?_)
  refine tr_aload_n (i := 0) dX12_readMark_32 rfl ?_
  refine tr_aload_n (i := 0) dX12_readMark_33 rfl ?_
  refine tr_getI 12 h0 fl_X12_384 (by decide +kernel) dX12_readMark_34 ?_
  refine tr_ifne (o := none) (tgt := 49) dX12_readMark_37 (by decide) ?_ ?_
  · exact t_X12_readMark_49 G hG d hd s5 l0 l1 l2 l3 l0 h0 h0
  · refine tr_aload_n (i := 0) dX12_readMark_40 rfl ?_
    refine tr_iload_n (i := 2) dX12_readMark_41 rfl ?_
    refine tr_iload_n (i := 3) dX12_readMark_42 rfl ?_
    refine tr_c_i (ms_cV (rest := [.ref l0]) (al := [.int l2, .int l3]) 12 (sp_X12_isSideOf G hG (d - 1) (by omega) s5 l0 l2 l3 h0) h0 (by decide +kernel) kl_X12_457 fv_X12_isSideOf dX12_readMark_43 (show _ = some 2 by decide +kernel) (by omega) (Nat.le_of_ble_eq_true rfl) (by decide) (by decide)) (fun v26 => ?_)
    refine tr_ifeq (o := none) (tgt := 53) dX12_readMark_46 (by decide) ?_ ?_
    · refine tr_iconst (v := 0) dX12_readMark_53 (by decide +kernel) ?_
      exact t_X12_readMark_54 G hG d hd s5 l0 l1 l2 l3 0 l0 h0 h0
    · exact t_X12_readMark_49 G hG d hd s5 l0 l1 l2 l3 l0 h0 h0
set_option maxRecDepth 100000 in
theorem sp_X12_readMark (G : MG) (hG : (g_l G).stackTraces = false) (d : Nat) (hd : 7 ≤ d)   (σ : MsSt) (l0 : Nat) (l1 : Int32) (h0 : ms_kd l0 = 13) : MsSpec G mX12_readMark d 0 0 [.ref l0, .int l1] σ ms_wv (f_X12_readMark σ l0 l1) := by
  refine ms_start (by decide +kernel) rfl rfl (Nat.le_of_ble_eq_true rfl) ?_
  show TrO G mX12_readMark d 0 0 0 0 ms_wv 0 [(0, .ref l0), (1, .int l1)] [] σ ((f_X12_readName σ l0).bind fun s1 => ms_b2 (f_X12_readNumber s1 l0 1 60) fun v2 s3 => (f_X12_sideHere s3 l0).bind fun v4 => if v4 = (-1) then f_X12_readMark_28 s3 l0 l1 v2 v4 0 l0 else f_X12_readMark_28 s3 l0 l1 v2 v4 1 l0)
  refine tr_aload_n (i := 0) dX12_readMark_0 rfl ?_
  refine tr_c_wv (ms_cV (rest := []) (al := []) 12 (sp_X12_readName G hG (d - 1) (by omega) σ l0 h0) h0 (by decide +kernel) kl_X12_448 fv_X12_readName dX12_readMark_1 (show _ = some 0 by decide +kernel) (by omega) (Nat.le_of_ble_eq_true rfl) (by decide) (by decide)) (fun s1 => ?_)
  refine tr_aload_n (i := 0) dX12_readMark_4 rfl ?_
  refine tr_iconst (v := 1) dX12_readMark_5 (by decide +kernel) ?_
  refine tr_bipush (v := 60) dX12_readMark_6 (by decide +kernel) ?_
  refine tr_d_wi (ms_cV (rest := []) (al := [.int 1, .int 60]) 12 (sp_X12_readNumber G hG (d - 1) (by omega) s1 l0 1 60 h0) h0 (by decide +kernel) kl_X12_451 fv_X12_readNumber dX12_readMark_8 (show _ = some 2 by decide +kernel) (by omega) (Nat.le_of_ble_eq_true rfl) (by decide) (by decide)) (fun v2 s3 => ?_)
  refine tr_istore_n (lv' := [(0, .ref l0), (1, .int l1), (2, .int v2)]) [1, 2, 0] dX12_readMark_11 (by decide) rfl ?_
  refine tr_aload_n (i := 0) dX12_readMark_12 rfl ?_
  refine tr_c_i (ms_cV (rest := []) (al := []) 12 (sp_X12_sideHere G hG (d - 1) (by omega) s3 l0 h0) h0 (by decide +kernel) kl_X12_454 fv_X12_sideHere dX12_readMark_13 (show _ = some 0 by decide +kernel) (by omega) (Nat.le_of_ble_eq_true rfl) (by decide) (by decide)) (fun v4 => ?_)
  refine tr_istore_n (lv' := [(0, .ref l0), (1, .int l1), (2, .int v2), (3, .int v4)]) [1, 2, 3, 0] dX12_readMark_16 (by decide) rfl ?_
  refine tr_aload_n (i := 0) dX12_readMark_17 rfl ?_
  refine tr_iload_n (i := 3) dX12_readMark_18 rfl ?_
  refine tr_iconst (v := (-1)) dX12_readMark_19 (by decide +kernel) ?_
  refine tr_iceq (o := none) (tgt := 27) dX12_readMark_20 (by decide) ?_ ?_
  · refine tr_iconst (v := 0) dX12_readMark_27 (by decide +kernel) ?_
    exact t_X12_readMark_28 G hG d hd s3 l0 l1 v2 v4 0 l0 h0 h0
  · refine tr_iconst (v := 1) dX12_readMark_23 (by decide +kernel) ?_
    refine tr_goto (tgt := 28) dX12_readMark_24 (by decide) ?_
    exact t_X12_readMark_28 G hG d hd s3 l0 l1 v2 v4 1 l0 h0 h0
theorem dX12_readPair_0 : decode cX12_readPair 0 = .ok (.aload_n 0, 1) := by decide +kernel
theorem dX12_readPair_1 : decode cX12_readPair 1 = .ok (.invokevirtual 448, 3) := by decide +kernel
theorem dX12_readPair_4 : decode cX12_readPair 4 = .ok (.aload_n 0, 1) := by decide +kernel
theorem dX12_readPair_5 : decode cX12_readPair 5 = .ok (.invokevirtual 460, 3) := by decide +kernel
theorem dX12_readPair_8 : decode cX12_readPair 8 = .ok (.istore_n 2, 1) := by decide +kernel
theorem dX12_readPair_9 : decode cX12_readPair 9 = .ok (.aload_n 0, 1) := by decide +kernel
theorem dX12_readPair_10 : decode cX12_readPair 10 = .ok (.aload_n 0, 1) := by decide +kernel
theorem dX12_readPair_11 : decode cX12_readPair 11 = .ok (.getfield 384, 3) := by decide +kernel
theorem dX12_readPair_14 : decode cX12_readPair 14 = .ok (.ifCond .ne 17, 3) := by decide +kernel
theorem dX12_readPair_17 : decode cX12_readPair 17 = .ok (.aload_n 0, 1) := by decide +kernel
theorem dX12_readPair_18 : decode cX12_readPair 18 = .ok (.getfield 13, 3) := by decide +kernel
theorem dX12_readPair_21 : decode cX12_readPair 21 = .ok (.iload_n 2, 1) := by decide +kernel
theorem dX12_readPair_22 : decode cX12_readPair 22 = .ok (.iconst 0, 1) := by decide +kernel
theorem dX12_readPair_23 : decode cX12_readPair 23 = .ok (.invokestatic 114, 3) := by decide +kernel
theorem dX12_readPair_26 : decode cX12_readPair 26 = .ok (.iaload, 1) := by decide +kernel
theorem dX12_readPair_27 : decode cX12_readPair 27 = .ok (.iconst 1, 1) := by decide +kernel
theorem dX12_readPair_28 : decode cX12_readPair 28 = .ok (.if_icmp .eq 7, 3) := by decide +kernel
theorem dX12_readPair_31 : decode cX12_readPair 31 = .ok (.iconst 1, 1) := by decide +kernel
theorem dX12_readPair_32 : decode cX12_readPair 32 = .ok (.goto 4, 3) := by decide +kernel
theorem dX12_readPair_35 : decode cX12_readPair 35 = .ok (.iconst 0, 1) := by decide +kernel
theorem dX12_readPair_36 : decode cX12_readPair 36 = .ok (.iconst 4, 1) := by decide +kernel
theorem dX12_readPair_37 : decode cX12_readPair 37 = .ok (.invokevirtual 410, 3) := by decide +kernel
theorem dX12_readPair_40 : decode cX12_readPair 40 = .ok (.aload_n 0, 1) := by decide +kernel
theorem dX12_readPair_41 : decode cX12_readPair 41 = .ok (.aload_n 0, 1) := by decide +kernel
theorem dX12_readPair_42 : decode cX12_readPair 42 = .ok (.getfield 384, 3) := by decide +kernel
theorem dX12_readPair_45 : decode cX12_readPair 45 = .ok (.ifCond .ne 16, 3) := by decide +kernel
theorem dX12_readPair_48 : decode cX12_readPair 48 = .ok (.aload_n 0, 1) := by decide +kernel
theorem dX12_readPair_49 : decode cX12_readPair 49 = .ok (.getfield 13, 3) := by decide +kernel
theorem dX12_readPair_52 : decode cX12_readPair 52 = .ok (.iload_n 2, 1) := by decide +kernel
theorem dX12_readPair_53 : decode cX12_readPair 53 = .ok (.invokestatic 125, 3) := by decide +kernel
theorem dX12_readPair_56 : decode cX12_readPair 56 = .ok (.bipush 6, 2) := by decide +kernel
theorem dX12_readPair_58 : decode cX12_readPair 58 = .ok (.if_icmp .ge 7, 3) := by decide +kernel
theorem dX12_readPair_61 : decode cX12_readPair 61 = .ok (.iconst 1, 1) := by decide +kernel
theorem dX12_readPair_62 : decode cX12_readPair 62 = .ok (.goto 4, 3) := by decide +kernel
theorem dX12_readPair_65 : decode cX12_readPair 65 = .ok (.iconst 0, 1) := by decide +kernel
theorem dX12_readPair_66 : decode cX12_readPair 66 = .ok (.iconst 5, 1) := by decide +kernel
theorem dX12_readPair_67 : decode cX12_readPair 67 = .ok (.invokevirtual 410, 3) := by decide +kernel
theorem dX12_readPair_70 : decode cX12_readPair 70 = .ok (.aload_n 0, 1) := by decide +kernel
theorem dX12_readPair_71 : decode cX12_readPair 71 = .ok (.invokevirtual 414, 3) := by decide +kernel
theorem dX12_readPair_74 : decode cX12_readPair 74 = .ok (.aload_n 0, 1) := by decide +kernel
theorem dX12_readPair_75 : decode cX12_readPair 75 = .ok (.invokevirtual 460, 3) := by decide +kernel
theorem dX12_readPair_78 : decode cX12_readPair 78 = .ok (.istore_n 3, 1) := by decide +kernel
theorem dX12_readPair_79 : decode cX12_readPair 79 = .ok (.aload_n 0, 1) := by decide +kernel
theorem dX12_readPair_80 : decode cX12_readPair 80 = .ok (.aload_n 0, 1) := by decide +kernel
theorem dX12_readPair_81 : decode cX12_readPair 81 = .ok (.getfield 384, 3) := by decide +kernel
theorem dX12_readPair_84 : decode cX12_readPair 84 = .ok (.ifCond .ne 16, 3) := by decide +kernel
theorem dX12_readPair_87 : decode cX12_readPair 87 = .ok (.aload_n 0, 1) := by decide +kernel
theorem dX12_readPair_88 : decode cX12_readPair 88 = .ok (.getfield 13, 3) := by decide +kernel
theorem dX12_readPair_91 : decode cX12_readPair 91 = .ok (.iload_n 2, 1) := by decide +kernel
theorem dX12_readPair_92 : decode cX12_readPair 92 = .ok (.iload_n 3, 1) := by decide +kernel
theorem dX12_readPair_93 : decode cX12_readPair 93 = .ok (.invokestatic 158, 3) := by decide +kernel
theorem dX12_readPair_96 : decode cX12_readPair 96 = .ok (.iconst (-1), 1) := by decide +kernel
theorem dX12_readPair_97 : decode cX12_readPair 97 = .ok (.if_icmp .ne 7, 3) := by decide +kernel
theorem dX12_readPair_100 : decode cX12_readPair 100 = .ok (.iconst 1, 1) := by decide +kernel
theorem dX12_readPair_101 : decode cX12_readPair 101 = .ok (.goto 4, 3) := by decide +kernel
theorem dX12_readPair_104 : decode cX12_readPair 104 = .ok (.iconst 0, 1) := by decide +kernel
theorem dX12_readPair_105 : decode cX12_readPair 105 = .ok (.iconst 3, 1) := by decide +kernel
theorem dX12_readPair_106 : decode cX12_readPair 106 = .ok (.invokevirtual 410, 3) := by decide +kernel
theorem dX12_readPair_109 : decode cX12_readPair 109 = .ok (.aload_n 0, 1) := by decide +kernel
theorem dX12_readPair_110 : decode cX12_readPair 110 = .ok (.aload_n 0, 1) := by decide +kernel
theorem dX12_readPair_111 : decode cX12_readPair 111 = .ok (.getfield 384, 3) := by decide +kernel
theorem dX12_readPair_114 : decode cX12_readPair 114 = .ok (.ifCond .ne 17, 3) := by decide +kernel
theorem dX12_readPair_117 : decode cX12_readPair 117 = .ok (.aload_n 0, 1) := by decide +kernel
theorem dX12_readPair_118 : decode cX12_readPair 118 = .ok (.getfield 13, 3) := by decide +kernel
theorem dX12_readPair_121 : decode cX12_readPair 121 = .ok (.iload_n 3, 1) := by decide +kernel
theorem dX12_readPair_122 : decode cX12_readPair 122 = .ok (.iconst 0, 1) := by decide +kernel
theorem dX12_readPair_123 : decode cX12_readPair 123 = .ok (.invokestatic 114, 3) := by decide +kernel
theorem dX12_readPair_126 : decode cX12_readPair 126 = .ok (.iaload, 1) := by decide +kernel
theorem dX12_readPair_127 : decode cX12_readPair 127 = .ok (.iconst 1, 1) := by decide +kernel
theorem dX12_readPair_128 : decode cX12_readPair 128 = .ok (.if_icmp .ne 7, 3) := by decide +kernel
theorem dX12_readPair_131 : decode cX12_readPair 131 = .ok (.iconst 1, 1) := by decide +kernel
theorem dX12_readPair_132 : decode cX12_readPair 132 = .ok (.goto 4, 3) := by decide +kernel
theorem dX12_readPair_135 : decode cX12_readPair 135 = .ok (.iconst 0, 1) := by decide +kernel
theorem dX12_readPair_136 : decode cX12_readPair 136 = .ok (.iconst 4, 1) := by decide +kernel
theorem dX12_readPair_137 : decode cX12_readPair 137 = .ok (.invokevirtual 410, 3) := by decide +kernel
theorem dX12_readPair_140 : decode cX12_readPair 140 = .ok (.aload_n 0, 1) := by decide +kernel
theorem dX12_readPair_141 : decode cX12_readPair 141 = .ok (.invokevirtual 414, 3) := by decide +kernel
theorem dX12_readPair_144 : decode cX12_readPair 144 = .ok (.aload_n 0, 1) := by decide +kernel
theorem dX12_readPair_145 : decode cX12_readPair 145 = .ok (.ldc_w 463, 3) := by decide +kernel
theorem dX12_readPair_148 : decode cX12_readPair 148 = .ok (.invokevirtual 465, 3) := by decide +kernel
theorem dX12_readPair_151 : decode cX12_readPair 151 = .ok (.istore 4, 2) := by decide +kernel
theorem dX12_readPair_153 : decode cX12_readPair 153 = .ok (.aload_n 0, 1) := by decide +kernel
theorem dX12_readPair_154 : decode cX12_readPair 154 = .ok (.getfield 13, 3) := by decide +kernel
theorem dX12_readPair_157 : decode cX12_readPair 157 = .ok (.iload_n 1, 1) := by decide +kernel
theorem dX12_readPair_158 : decode cX12_readPair 158 = .ok (.iconst 0, 1) := by decide +kernel
theorem dX12_readPair_159 : decode cX12_readPair 159 = .ok (.invokestatic 114, 3) := by decide +kernel
theorem dX12_readPair_162 : decode cX12_readPair 162 = .ok (.iconst 2, 1) := by decide +kernel
theorem dX12_readPair_163 : decode cX12_readPair 163 = .ok (.iastore, 1) := by decide +kernel
theorem dX12_readPair_164 : decode cX12_readPair 164 = .ok (.aload_n 0, 1) := by decide +kernel
theorem dX12_readPair_165 : decode cX12_readPair 165 = .ok (.getfield 13, 3) := by decide +kernel
theorem dX12_readPair_168 : decode cX12_readPair 168 = .ok (.iload_n 1, 1) := by decide +kernel
theorem dX12_readPair_169 : decode cX12_readPair 169 = .ok (.iconst 3, 1) := by decide +kernel
theorem dX12_readPair_170 : decode cX12_readPair 170 = .ok (.invokestatic 114, 3) := by decide +kernel
theorem dX12_readPair_173 : decode cX12_readPair 173 = .ok (.iload_n 2, 1) := by decide +kernel
theorem dX12_readPair_174 : decode cX12_readPair 174 = .ok (.iastore, 1) := by decide +kernel
theorem dX12_readPair_175 : decode cX12_readPair 175 = .ok (.aload_n 0, 1) := by decide +kernel
theorem dX12_readPair_176 : decode cX12_readPair 176 = .ok (.getfield 13, 3) := by decide +kernel
theorem dX12_readPair_179 : decode cX12_readPair 179 = .ok (.iload_n 1, 1) := by decide +kernel
theorem dX12_readPair_180 : decode cX12_readPair 180 = .ok (.iconst 4, 1) := by decide +kernel
theorem dX12_readPair_181 : decode cX12_readPair 181 = .ok (.invokestatic 114, 3) := by decide +kernel
theorem dX12_readPair_184 : decode cX12_readPair 184 = .ok (.iload_n 3, 1) := by decide +kernel
theorem dX12_readPair_185 : decode cX12_readPair 185 = .ok (.iastore, 1) := by decide +kernel
theorem dX12_readPair_186 : decode cX12_readPair 186 = .ok (.aload_n 0, 1) := by decide +kernel
theorem dX12_readPair_187 : decode cX12_readPair 187 = .ok (.getfield 13, 3) := by decide +kernel
theorem dX12_readPair_190 : decode cX12_readPair 190 = .ok (.iload_n 1, 1) := by decide +kernel
theorem dX12_readPair_191 : decode cX12_readPair 191 = .ok (.iconst 5, 1) := by decide +kernel
theorem dX12_readPair_192 : decode cX12_readPair 192 = .ok (.invokestatic 114, 3) := by decide +kernel
theorem dX12_readPair_195 : decode cX12_readPair 195 = .ok (.iload 4, 2) := by decide +kernel
theorem dX12_readPair_197 : decode cX12_readPair 197 = .ok (.ifCond .eq 7, 3) := by decide +kernel
theorem dX12_readPair_200 : decode cX12_readPair 200 = .ok (.iconst 1, 1) := by decide +kernel
theorem dX12_readPair_201 : decode cX12_readPair 201 = .ok (.goto 4, 3) := by decide +kernel
theorem dX12_readPair_204 : decode cX12_readPair 204 = .ok (.iconst 0, 1) := by decide +kernel
theorem dX12_readPair_205 : decode cX12_readPair 205 = .ok (.iastore, 1) := by decide +kernel
theorem dX12_readPair_206 : decode cX12_readPair 206 = .ok (.return_, 1) := by decide +kernel
set_option maxRecDepth 100000 in
theorem t_X12_readPair_136 (G : MG) (hG : (g_l G).stackTraces = false) (d : Nat) (hd : 7 ≤ d)    (σ : MsSt) (l0 : Nat) (l1 : Int32) (l2 : Int32) (l3 : Int32) (t0 : Int32) (t1 : Nat) (h0 : ms_kd l0 = 13) (ht1 : ms_kd t1 = 13) : TrO G mX12_readPair d 0 0 0 0 ms_wv 136 [(0, .ref l0), (1, .int l1), (2, .int l2), (3, .int l3)] [.int t0, .ref t1] σ (f_X12_readPair_136 σ l0 l1 l2 l3 t0 t1) := by
  show TrO G mX12_readPair d 0 0 0 0 ms_wv 136 [(0, .ref l0), (1, .int l1), (2, .int l2), (3, .int l3)] [.int t0, .ref t1] σ ((f_X12_check σ t1 t0 4).bind fun s10 => (f_X12_advance s10 l0).bind fun s11 => ms_b2 (f_X12_accept s11 l0 644) fun v12 s13 => (f_X12_of s13 l1 0).bind fun v14 => (ms_ast s13 (ms_rf l0 1) v14 2).bind fun s15 => (f_X12_of s15 l1 3).bind fun v16 => (ms_ast s15 (ms_rf l0 1) v16 l2).bind fun s17 => (f_X12_of s17 l1 4).bind fun v18 => (ms_ast s17 (ms_rf l0 1) v18 l3).bind fun s19 => (f_X12_of s19 l1 5).bind fun v20 => if v12 = 0 then (ms_ast s19 (ms_rf l0 1) v20 0).bind fun s21 => some s21 else (ms_ast s19 (ms_rf l0 1) v20 1).bind fun s22 => some s22)
  refine tr_iconst (v := 4) dX12_readPair_136 (by decide +kernel) ?_
  refine tr_c_wv (ms_cV (rest := []) (al := [.int t0, .int 4]) 12 (sp_X12_check G hG (d - 1) (by omega) σ t1 t0 4 ht1) ht1 (by decide +kernel) kl_X12_410 fv_X12_check dX12_readPair_137 (show _ = some 2 by decide +kernel) (by omega) (Nat.le_of_ble_eq_true rfl) (by decide) (by decide)) (fun s10 => ?_)
  refine tr_aload_n (i := 0) dX12_readPair_140 rfl ?_
  refine tr_c_wv (ms_cV (rest := []) (al := []) 12 (sp_X12_advance G hG (d - 1) (by omega) s10 l0 h0) h0 (by decide +kernel) kl_X12_414 fv_X12_advance dX12_readPair_141 (show _ = some 0 by decide +kernel) (by omega) (Nat.le_of_ble_eq_true rfl) (by decide) (by decide)) (fun s11 => ?_)
  refine tr_aload_n (i := 0) dX12_readPair_144 rfl ?_
  refine tr_ldcsw 44 (tx := "spare") (by decide) (by decide +kernel) dX12_readPair_145 ?_
  refine tr_d_wi (ms_cV (rest := []) (al := [.ref 644]) 12 (sp_X12_accept G hG (d - 1) (by omega) s11 l0 644 h0 (⟨by decide, by decide⟩)) h0 (by decide +kernel) kl_X12_465 fv_X12_accept dX12_readPair_148 (show _ = some 1 by decide +kernel) (by omega) (Nat.le_of_ble_eq_true rfl) (by decide) (by decide)) (fun v12 s13 => ?_)
  refine tr_istore (lv' := [(0, .ref l0), (1, .int l1), (2, .int l2), (3, .int l3), (4, .int v12)]) [1, 2, 3, 4, 0] dX12_readPair_151 (by decide) rfl ?_
  refine tr_aload_n (i := 0) dX12_readPair_153 rfl ?_
  refine tr_getR 12 h0 fl_X12_13 (by decide +kernel) dX12_readPair_154 ?_
  refine tr_iload_n (i := 1) dX12_readPair_157 rfl ?_
  refine tr_iconst (v := 0) dX12_readPair_158 (by decide +kernel) ?_
  refine tr_c_i (ms_cS (rest := [.ref (ms_rf l0 1)]) (al := [.int l1, .int 0]) (sp_X12_of G hG (d - 1) (by omega) s13 l1 0) kl_X12_114 fs_X12_of dX12_readPair_159 (show _ = some 2 by decide +kernel) (by omega) (Nat.le_of_ble_eq_true rfl) (by decide) (by decide)) (fun v14 => ?_)
  refine tr_iconst (v := 2) dX12_readPair_162 (by decide +kernel) ?_
  refine tr_ast (rk_12_1 h0) dX12_readPair_163 (fun s15 => ?_)
  refine tr_aload_n (i := 0) dX12_readPair_164 rfl ?_
  refine tr_getR 12 h0 fl_X12_13 (by decide +kernel) dX12_readPair_165 ?_
  refine tr_iload_n (i := 1) dX12_readPair_168 rfl ?_
  refine tr_iconst (v := 3) dX12_readPair_169 (by decide +kernel) ?_
  refine tr_c_i (ms_cS (rest := [.ref (ms_rf l0 1)]) (al := [.int l1, .int 3]) (sp_X12_of G hG (d - 1) (by omega) s15 l1 3) kl_X12_114 fs_X12_of dX12_readPair_170 (show _ = some 2 by decide +kernel) (by omega) (Nat.le_of_ble_eq_true rfl) (by decide) (by decide)) (fun v16 => ?_)
  refine tr_iload_n (i := 2) dX12_readPair_173 rfl ?_
  refine tr_ast (rk_12_1 h0) dX12_readPair_174 (fun s17 => ?_)
  refine tr_aload_n (i := 0) dX12_readPair_175 rfl ?_
  refine tr_getR 12 h0 fl_X12_13 (by decide +kernel) dX12_readPair_176 ?_
  refine tr_iload_n (i := 1) dX12_readPair_179 rfl ?_
  refine tr_iconst (v := 4) dX12_readPair_180 (by decide +kernel) ?_
  refine tr_c_i (ms_cS (rest := [.ref (ms_rf l0 1)]) (al := [.int l1, .int 4]) (sp_X12_of G hG (d - 1) (by omega) s17 l1 4) kl_X12_114 fs_X12_of dX12_readPair_181 (show _ = some 2 by decide +kernel) (by omega) (Nat.le_of_ble_eq_true rfl) (by decide) (by decide)) (fun v18 => ?_)
  refine tr_iload_n (i := 3) dX12_readPair_184 rfl ?_
  refine tr_ast (rk_12_1 h0) dX12_readPair_185 (fun s19 => ?_)
  refine tr_aload_n (i := 0) dX12_readPair_186 rfl ?_
  refine tr_getR 12 h0 fl_X12_13 (by decide +kernel) dX12_readPair_187 ?_
  refine tr_iload_n (i := 1) dX12_readPair_190 rfl ?_
  refine tr_iconst (v := 5) dX12_readPair_191 (by decide +kernel) ?_
  refine tr_c_i (ms_cS (rest := [.ref (ms_rf l0 1)]) (al := [.int l1, .int 5]) (sp_X12_of G hG (d - 1) (by omega) s19 l1 5) kl_X12_114 fs_X12_of dX12_readPair_192 (show _ = some 2 by decide +kernel) (by omega) (Nat.le_of_ble_eq_true rfl) (by decide) (by decide)) (fun v20 => ?_)
  refine tr_iload (i := 4) dX12_readPair_195 rfl ?_
  refine tr_ifeq (o := none) (tgt := 204) dX12_readPair_197 (by decide) ?_ ?_
  · refine tr_iconst (v := 0) dX12_readPair_204 (by decide +kernel) ?_
    refine tr_ast (rk_12_1 h0) dX12_readPair_205 (fun s21 => ?_)
    exact tr_vret rfl rfl (by decide) (by decide) dX12_readPair_206
  · refine tr_iconst (v := 1) dX12_readPair_200 (by decide +kernel) ?_
    refine tr_goto (tgt := 205) dX12_readPair_201 (by decide) ?_
    refine tr_ast (rk_12_1 h0) dX12_readPair_205 (fun s22 => ?_)
    exact tr_vret rfl rfl (by decide) (by decide) dX12_readPair_206
set_option maxRecDepth 100000 in
theorem t_X12_readPair_131 (G : MG) (hG : (g_l G).stackTraces = false) (d : Nat) (hd : 7 ≤ d)    (σ : MsSt) (l0 : Nat) (l1 : Int32) (l2 : Int32) (l3 : Int32) (t0 : Nat) (h0 : ms_kd l0 = 13) (ht0 : ms_kd t0 = 13) : TrO G mX12_readPair d 0 0 0 0 ms_wv 131 [(0, .ref l0), (1, .int l1), (2, .int l2), (3, .int l3)] [.ref t0] σ (f_X12_readPair_131 σ l0 l1 l2 l3 t0) := by
  show TrO G mX12_readPair d 0 0 0 0 ms_wv 131 [(0, .ref l0), (1, .int l1), (2, .int l2), (3, .int l3)] [.ref t0] σ (f_X12_readPair_136 σ l0 l1 l2 l3 1 t0)
  refine tr_iconst (v := 1) dX12_readPair_131 (by decide +kernel) ?_
  refine tr_goto (tgt := 136) dX12_readPair_132 (by decide) ?_
  exact t_X12_readPair_136 G hG d hd σ l0 l1 l2 l3 1 t0 h0 ht0
set_option maxRecDepth 100000 in
theorem t_X12_readPair_105 (G : MG) (hG : (g_l G).stackTraces = false) (d : Nat) (hd : 7 ≤ d)    (σ : MsSt) (l0 : Nat) (l1 : Int32) (l2 : Int32) (l3 : Int32) (t0 : Int32) (t1 : Nat) (h0 : ms_kd l0 = 13) (ht1 : ms_kd t1 = 13) : TrO G mX12_readPair d 0 0 0 0 ms_wv 105 [(0, .ref l0), (1, .int l1), (2, .int l2), (3, .int l3)] [.int t0, .ref t1] σ (f_X12_readPair_105 σ l0 l1 l2 l3 t0 t1) := by
  show TrO G mX12_readPair d 0 0 0 0 ms_wv 105 [(0, .ref l0), (1, .int l1), (2, .int l2), (3, .int l3)] [.int t0, .ref t1] σ ((f_X12_check σ t1 t0 3).bind fun s9 => if (ms_i s9 l0 32) = 0 then (f_X12_of s9 l3 0).bind fun v23 => (ms_ald s9 (ms_rf l0 1) v23).bind fun v24 => if v24 = 1 then f_X12_readPair_131 s9 l0 l1 l2 l3 l0 else f_X12_readPair_136 s9 l0 l1 l2 l3 0 l0 else f_X12_readPair_131 s9 l0 l1 l2 l3 l0)
  refine tr_iconst (v := 3) dX12_readPair_105 (by decide +kernel) ?_
  refine tr_c_wv (ms_cV (rest := []) (al := [.int t0, .int 3]) 12 (sp_X12_check G hG (d - 1) (by omega) σ t1 t0 3 ht1) ht1 (by decide +kernel) kl_X12_410 fv_X12_check dX12_readPair_106 (show _ = some 2 by decide +kernel) (by omega) (Nat.le_of_ble_eq_true rfl) (by decide) (by decide)) (fun s9 => ?_)
  refine tr_aload_n (i := 0) dX12_readPair_109 rfl ?_
  refine tr_aload_n (i := 0) dX12_readPair_110 rfl ?_
  refine tr_getI 12 h0 fl_X12_384 (by decide +kernel) dX12_readPair_111 ?_
  refine tr_ifne (o := none) (tgt := 131) dX12_readPair_114 (by decide) ?_ ?_
  · exact t_X12_readPair_131 G hG d hd s9 l0 l1 l2 l3 l0 h0 h0
  · refine tr_aload_n (i := 0) dX12_readPair_117 rfl ?_
    refine tr_getR 12 h0 fl_X12_13 (by decide +kernel) dX12_readPair_118 ?_
    refine tr_iload_n (i := 3) dX12_readPair_121 rfl ?_
    refine tr_iconst (v := 0) dX12_readPair_122 (by decide +kernel) ?_
    refine tr_c_i (ms_cS (rest := [.ref (ms_rf l0 1), .ref l0]) (al := [.int l3, .int 0]) (sp_X12_of G hG (d - 1) (by omega) s9 l3 0) kl_X12_114 fs_X12_of dX12_readPair_123 (show _ = some 2 by decide +kernel) (by omega) (Nat.le_of_ble_eq_true rfl) (by decide) (by decide)) (fun v23 => ?_)
    refine tr_ald (rk_12_1 h0) dX12_readPair_126 (fun v24 => ?_)
    refine tr_iconst (v := 1) dX12_readPair_127 (by decide +kernel) ?_
    refine tr_icne (o := none) (tgt := 135) dX12_readPair_128 (by decide) ?_ ?_
    · refine tr_iconst (v := 0) dX12_readPair_135 (by decide +kernel) ?_
      exact t_X12_readPair_136 G hG d hd s9 l0 l1 l2 l3 0 l0 h0 h0
    · exact t_X12_readPair_131 G hG d hd s9 l0 l1 l2 l3 l0 h0 h0
set_option maxRecDepth 100000 in
theorem t_X12_readPair_100 (G : MG) (hG : (g_l G).stackTraces = false) (d : Nat) (hd : 7 ≤ d)    (σ : MsSt) (l0 : Nat) (l1 : Int32) (l2 : Int32) (l3 : Int32) (t0 : Nat) (h0 : ms_kd l0 = 13) (ht0 : ms_kd t0 = 13) : TrO G mX12_readPair d 0 0 0 0 ms_wv 100 [(0, .ref l0), (1, .int l1), (2, .int l2), (3, .int l3)] [.ref t0] σ (f_X12_readPair_100 σ l0 l1 l2 l3 t0) := by
  show TrO G mX12_readPair d 0 0 0 0 ms_wv 100 [(0, .ref l0), (1, .int l1), (2, .int l2), (3, .int l3)] [.ref t0] σ (f_X12_readPair_105 σ l0 l1 l2 l3 1 t0)
  refine tr_iconst (v := 1) dX12_readPair_100 (by decide +kernel) ?_
  refine tr_goto (tgt := 105) dX12_readPair_101 (by decide) ?_
  exact t_X12_readPair_105 G hG d hd σ l0 l1 l2 l3 1 t0 h0 ht0
set_option maxRecDepth 100000 in
theorem t_X12_readPair_66 (G : MG) (hG : (g_l G).stackTraces = false) (d : Nat) (hd : 7 ≤ d)    (σ : MsSt) (l0 : Nat) (l1 : Int32) (l2 : Int32) (t0 : Int32) (t1 : Nat) (h0 : ms_kd l0 = 13) (ht1 : ms_kd t1 = 13) : TrO G mX12_readPair d 0 0 0 0 ms_wv 66 [(0, .ref l0), (1, .int l1), (2, .int l2)] [.int t0, .ref t1] σ (f_X12_readPair_66 σ l0 l1 l2 t0 t1) := by
  show TrO G mX12_readPair d 0 0 0 0 ms_wv 66 [(0, .ref l0), (1, .int l1), (2, .int l2)] [.int t0, .ref t1] σ ((f_X12_check σ t1 t0 5).bind fun s5 => (f_X12_advance s5 l0).bind fun s6 => ms_b2 (f_X12_lookSign s6 l0) fun v7 s8 => if (ms_i s8 l0 32) = 0 then (f_X12_findPair s8 (ms_rf l0 1) l2 v7).bind fun v25 => if v25 = (-1) then f_X12_readPair_100 s8 l0 l1 l2 v7 l0 else f_X12_readPair_105 s8 l0 l1 l2 v7 0 l0 else f_X12_readPair_100 s8 l0 l1 l2 v7 l0)
  refine tr_iconst (v := 5) dX12_readPair_66 (by decide +kernel) ?_
  refine tr_c_wv (ms_cV (rest := []) (al := [.int t0, .int 5]) 12 (sp_X12_check G hG (d - 1) (by omega) σ t1 t0 5 ht1) ht1 (by decide +kernel) kl_X12_410 fv_X12_check dX12_readPair_67 (show _ = some 2 by decide +kernel) (by omega) (Nat.le_of_ble_eq_true rfl) (by decide) (by decide)) (fun s5 => ?_)
  refine tr_aload_n (i := 0) dX12_readPair_70 rfl ?_
  refine tr_c_wv (ms_cV (rest := []) (al := []) 12 (sp_X12_advance G hG (d - 1) (by omega) s5 l0 h0) h0 (by decide +kernel) kl_X12_414 fv_X12_advance dX12_readPair_71 (show _ = some 0 by decide +kernel) (by omega) (Nat.le_of_ble_eq_true rfl) (by decide) (by decide)) (fun s6 => ?_)
  refine tr_aload_n (i := 0) dX12_readPair_74 rfl ?_
  refine tr_d_wi (ms_cV (rest := []) (al := []) 12 (sp_X12_lookSign G hG (d - 1) (by omega) s6 l0 h0) h0 (by decide +kernel) kl_X12_460 fv_X12_lookSign dX12_readPair_75 (show _ = some 0 by decide +kernel) (by omega) (Nat.le_of_ble_eq_true rfl) (by decide) (by decide)) (fun v7 s8 => ?_)
  refine tr_istore_n (lv' := [(0, .ref l0), (1, .int l1), (2, .int l2), (3, .int v7)]) [1, 2, 3, 0] dX12_readPair_78 (by decide) rfl ?_
  refine tr_aload_n (i := 0) dX12_readPair_79 rfl ?_
  refine tr_aload_n (i := 0) dX12_readPair_80 rfl ?_
  refine tr_getI 12 h0 fl_X12_384 (by decide +kernel) dX12_readPair_81 ?_
  refine tr_ifne (o := none) (tgt := 100) dX12_readPair_84 (by decide) ?_ ?_
  · exact t_X12_readPair_100 G hG d hd s8 l0 l1 l2 v7 l0 h0 h0
  · refine tr_aload_n (i := 0) dX12_readPair_87 rfl ?_
    refine tr_getR 12 h0 fl_X12_13 (by decide +kernel) dX12_readPair_88 ?_
    refine tr_iload_n (i := 2) dX12_readPair_91 rfl ?_
    refine tr_iload_n (i := 3) dX12_readPair_92 rfl ?_
    refine tr_c_i (ms_cS (rest := [.ref l0]) (al := [.ref (ms_rf l0 1), .int l2, .int v7]) (sp_X12_findPair G hG (d - 1) (by omega) s8 (ms_rf l0 1) l2 v7 (rk_12_1 h0)) kl_X12_158 fs_X12_findPair dX12_readPair_93 (show _ = some 3 by decide +kernel) (by omega) (Nat.le_of_ble_eq_true rfl) (by decide) (by decide)) (fun v25 => ?_)
    refine tr_iconst (v := (-1)) dX12_readPair_96 (by decide +kernel) ?_
    refine tr_icne (o := none) (tgt := 104) dX12_readPair_97 (by decide) ?_ ?_
    · refine tr_iconst (v := 0) dX12_readPair_104 (by decide +kernel) ?_
      exact t_X12_readPair_105 G hG d hd s8 l0 l1 l2 v7 0 l0 h0 h0
    · exact t_X12_readPair_100 G hG d hd s8 l0 l1 l2 v7 l0 h0 h0
set_option maxRecDepth 100000 in
theorem t_X12_readPair_61 (G : MG) (hG : (g_l G).stackTraces = false) (d : Nat) (hd : 7 ≤ d)    (σ : MsSt) (l0 : Nat) (l1 : Int32) (l2 : Int32) (t0 : Nat) (h0 : ms_kd l0 = 13) (ht0 : ms_kd t0 = 13) : TrO G mX12_readPair d 0 0 0 0 ms_wv 61 [(0, .ref l0), (1, .int l1), (2, .int l2)] [.ref t0] σ (f_X12_readPair_61 σ l0 l1 l2 t0) := by
  show TrO G mX12_readPair d 0 0 0 0 ms_wv 61 [(0, .ref l0), (1, .int l1), (2, .int l2)] [.ref t0] σ (f_X12_readPair_66 σ l0 l1 l2 1 t0)
  refine tr_iconst (v := 1) dX12_readPair_61 (by decide +kernel) ?_
  refine tr_goto (tgt := 66) dX12_readPair_62 (by decide) ?_
  exact t_X12_readPair_66 G hG d hd σ l0 l1 l2 1 t0 h0 ht0
set_option maxRecDepth 100000 in
theorem t_X12_readPair_36 (G : MG) (hG : (g_l G).stackTraces = false) (d : Nat) (hd : 7 ≤ d)    (σ : MsSt) (l0 : Nat) (l1 : Int32) (l2 : Int32) (t0 : Int32) (t1 : Nat) (h0 : ms_kd l0 = 13) (ht1 : ms_kd t1 = 13) : TrO G mX12_readPair d 0 0 0 0 ms_wv 36 [(0, .ref l0), (1, .int l1), (2, .int l2)] [.int t0, .ref t1] σ (f_X12_readPair_36 σ l0 l1 l2 t0 t1) := by
  show TrO G mX12_readPair d 0 0 0 0 ms_wv 36 [(0, .ref l0), (1, .int l1), (2, .int l2)] [.int t0, .ref t1] σ ((f_X12_check σ t1 t0 4).bind fun s4 => if (ms_i s4 l0 32) = 0 then (f_X12_parts s4 (ms_rf l0 1) l2).bind fun v26 => if v26 < 6 then f_X12_readPair_61 s4 l0 l1 l2 l0 else f_X12_readPair_66 s4 l0 l1 l2 0 l0 else f_X12_readPair_61 s4 l0 l1 l2 l0)
  refine tr_iconst (v := 4) dX12_readPair_36 (by decide +kernel) ?_
  refine tr_c_wv (ms_cV (rest := []) (al := [.int t0, .int 4]) 12 (sp_X12_check G hG (d - 1) (by omega) σ t1 t0 4 ht1) ht1 (by decide +kernel) kl_X12_410 fv_X12_check dX12_readPair_37 (show _ = some 2 by decide +kernel) (by omega) (Nat.le_of_ble_eq_true rfl) (by decide) (by decide)) (fun s4 => ?_)
  refine tr_aload_n (i := 0) dX12_readPair_40 rfl ?_
  refine tr_aload_n (i := 0) dX12_readPair_41 rfl ?_
  refine tr_getI 12 h0 fl_X12_384 (by decide +kernel) dX12_readPair_42 ?_
  refine tr_ifne (o := none) (tgt := 61) dX12_readPair_45 (by decide) ?_ ?_
  · exact t_X12_readPair_61 G hG d hd s4 l0 l1 l2 l0 h0 h0
  · refine tr_aload_n (i := 0) dX12_readPair_48 rfl ?_
    refine tr_getR 12 h0 fl_X12_13 (by decide +kernel) dX12_readPair_49 ?_
    refine tr_iload_n (i := 2) dX12_readPair_52 rfl ?_
    refine tr_c_i (ms_cS (rest := [.ref l0]) (al := [.ref (ms_rf l0 1), .int l2]) (sp_X12_parts G hG (d - 1) (by omega) s4 (ms_rf l0 1) l2 (rk_12_1 h0)) kl_X12_125 fs_X12_parts dX12_readPair_53 (show _ = some 2 by decide +kernel) (by omega) (Nat.le_of_ble_eq_true rfl) (by decide) (by decide)) (fun v26 => ?_)
    refine tr_bipush (v := 6) dX12_readPair_56 (by decide +kernel) ?_
    refine tr_icge (o := none) (tgt := 65) dX12_readPair_58 (by decide) ?_ ?_
    · refine tr_iconst (v := 0) dX12_readPair_65 (by decide +kernel) ?_
      exact t_X12_readPair_66 G hG d hd s4 l0 l1 l2 0 l0 h0 h0
    · exact t_X12_readPair_61 G hG d hd s4 l0 l1 l2 l0 h0 h0
set_option maxRecDepth 100000 in
theorem t_X12_readPair_31 (G : MG) (hG : (g_l G).stackTraces = false) (d : Nat) (hd : 7 ≤ d)    (σ : MsSt) (l0 : Nat) (l1 : Int32) (l2 : Int32) (t0 : Nat) (h0 : ms_kd l0 = 13) (ht0 : ms_kd t0 = 13) : TrO G mX12_readPair d 0 0 0 0 ms_wv 31 [(0, .ref l0), (1, .int l1), (2, .int l2)] [.ref t0] σ (f_X12_readPair_31 σ l0 l1 l2 t0) := by
  show TrO G mX12_readPair d 0 0 0 0 ms_wv 31 [(0, .ref l0), (1, .int l1), (2, .int l2)] [.ref t0] σ (f_X12_readPair_36 σ l0 l1 l2 1 t0)
  refine tr_iconst (v := 1) dX12_readPair_31 (by decide +kernel) ?_
  refine tr_goto (tgt := 36) dX12_readPair_32 (by decide) ?_
  exact t_X12_readPair_36 G hG d hd σ l0 l1 l2 1 t0 h0 ht0
set_option maxRecDepth 100000 in
theorem sp_X12_readPair (G : MG) (hG : (g_l G).stackTraces = false) (d : Nat) (hd : 7 ≤ d)   (σ : MsSt) (l0 : Nat) (l1 : Int32) (h0 : ms_kd l0 = 13) : MsSpec G mX12_readPair d 0 0 [.ref l0, .int l1] σ ms_wv (f_X12_readPair σ l0 l1) := by
  refine ms_start (by decide +kernel) rfl rfl (Nat.le_of_ble_eq_true rfl) ?_
  show TrO G mX12_readPair d 0 0 0 0 ms_wv 0 [(0, .ref l0), (1, .int l1)] [] σ ((f_X12_readName σ l0).bind fun s1 => ms_b2 (f_X12_lookSign s1 l0) fun v2 s3 => if (ms_i s3 l0 32) = 0 then (f_X12_of s3 v2 0).bind fun v27 => (ms_ald s3 (ms_rf l0 1) v27).bind fun v28 => if v28 = 1 then f_X12_readPair_36 s3 l0 l1 v2 0 l0 else f_X12_readPair_31 s3 l0 l1 v2 l0 else f_X12_readPair_31 s3 l0 l1 v2 l0)
  refine tr_aload_n (i := 0) dX12_readPair_0 rfl ?_
  refine tr_c_wv (ms_cV (rest := []) (al := []) 12 (sp_X12_readName G hG (d - 1) (by omega) σ l0 h0) h0 (by decide +kernel) kl_X12_448 fv_X12_readName dX12_readPair_1 (show _ = some 0 by decide +kernel) (by omega) (Nat.le_of_ble_eq_true rfl) (by decide) (by decide)) (fun s1 => ?_)
  refine tr_aload_n (i := 0) dX12_readPair_4 rfl ?_
  refine tr_d_wi (ms_cV (rest := []) (al := []) 12 (sp_X12_lookSign G hG (d - 1) (by omega) s1 l0 h0) h0 (by decide +kernel) kl_X12_460 fv_X12_lookSign dX12_readPair_5 (show _ = some 0 by decide +kernel) (by omega) (Nat.le_of_ble_eq_true rfl) (by decide) (by decide)) (fun v2 s3 => ?_)
  refine tr_istore_n (lv' := [(0, .ref l0), (1, .int l1), (2, .int v2)]) [1, 2, 0] dX12_readPair_8 (by decide) rfl ?_
  refine tr_aload_n (i := 0) dX12_readPair_9 rfl ?_
  refine tr_aload_n (i := 0) dX12_readPair_10 rfl ?_
  refine tr_getI 12 h0 fl_X12_384 (by decide +kernel) dX12_readPair_11 ?_
  refine tr_ifne (o := none) (tgt := 31) dX12_readPair_14 (by decide) ?_ ?_
  · exact t_X12_readPair_31 G hG d hd s3 l0 l1 v2 l0 h0 h0
  · refine tr_aload_n (i := 0) dX12_readPair_17 rfl ?_
    refine tr_getR 12 h0 fl_X12_13 (by decide +kernel) dX12_readPair_18 ?_
    refine tr_iload_n (i := 2) dX12_readPair_21 rfl ?_
    refine tr_iconst (v := 0) dX12_readPair_22 (by decide +kernel) ?_
    refine tr_c_i (ms_cS (rest := [.ref (ms_rf l0 1), .ref l0]) (al := [.int v2, .int 0]) (sp_X12_of G hG (d - 1) (by omega) s3 v2 0) kl_X12_114 fs_X12_of dX12_readPair_23 (show _ = some 2 by decide +kernel) (by omega) (Nat.le_of_ble_eq_true rfl) (by decide) (by decide)) (fun v27 => ?_)
    refine tr_ald (rk_12_1 h0) dX12_readPair_26 (fun v28 => ?_)
    refine tr_iconst (v := 1) dX12_readPair_27 (by decide +kernel) ?_
    refine tr_iceq (o := none) (tgt := 35) dX12_readPair_28 (by decide) ?_ ?_
    · refine tr_iconst (v := 0) dX12_readPair_35 (by decide +kernel) ?_
      exact t_X12_readPair_36 G hG d hd s3 l0 l1 v2 0 l0 h0 h0
    · exact t_X12_readPair_31 G hG d hd s3 l0 l1 v2 l0 h0 h0
theorem dX12_isSignHere_0 : decode cX12_isSignHere 0 = .ok (.aload_n 0, 1) := by decide +kernel
theorem dX12_isSignHere_1 : decode cX12_isSignHere 1 = .ok (.ldc 71, 2) := by decide +kernel
theorem dX12_isSignHere_3 : decode cX12_isSignHere 3 = .ok (.invokevirtual 406, 3) := by decide +kernel
theorem dX12_isSignHere_6 : decode cX12_isSignHere 6 = .ok (.ifCond .ne 21, 3) := by decide +kernel
theorem dX12_isSignHere_9 : decode cX12_isSignHere 9 = .ok (.aload_n 0, 1) := by decide +kernel
theorem dX12_isSignHere_10 : decode cX12_isSignHere 10 = .ok (.ldc 73, 2) := by decide +kernel
theorem dX12_isSignHere_12 : decode cX12_isSignHere 12 = .ok (.invokevirtual 406, 3) := by decide +kernel
theorem dX12_isSignHere_15 : decode cX12_isSignHere 15 = .ok (.ifCond .ne 12, 3) := by decide +kernel
theorem dX12_isSignHere_18 : decode cX12_isSignHere 18 = .ok (.aload_n 0, 1) := by decide +kernel
theorem dX12_isSignHere_19 : decode cX12_isSignHere 19 = .ok (.ldc 75, 2) := by decide +kernel
theorem dX12_isSignHere_21 : decode cX12_isSignHere 21 = .ok (.invokevirtual 406, 3) := by decide +kernel
theorem dX12_isSignHere_24 : decode cX12_isSignHere 24 = .ok (.ifCond .eq 7, 3) := by decide +kernel
theorem dX12_isSignHere_27 : decode cX12_isSignHere 27 = .ok (.iconst 1, 1) := by decide +kernel
theorem dX12_isSignHere_28 : decode cX12_isSignHere 28 = .ok (.goto 4, 3) := by decide +kernel
theorem dX12_isSignHere_31 : decode cX12_isSignHere 31 = .ok (.iconst 0, 1) := by decide +kernel
theorem dX12_isSignHere_32 : decode cX12_isSignHere 32 = .ok (.ireturn, 1) := by decide +kernel
set_option maxRecDepth 100000 in
theorem sp_X12_isSignHere (G : MG) (hG : (g_l G).stackTraces = false) (d : Nat) (hd : 5 ≤ d)   (σ : MsSt) (l0 : Nat) (h0 : ms_kd l0 = 13) : MsSpec G mX12_isSignHere d 0 0 [.ref l0] σ (ms_ki σ) (f_X12_isSignHere σ l0) := by
  refine ms_start (by decide +kernel) rfl rfl (Nat.le_of_ble_eq_true rfl) ?_
  show TrO G mX12_isSignHere d 0 0 0 0 (ms_ki σ) 0 [(0, .ref l0)] [] σ ((f_X12_isWord σ l0 630).bind fun v1 => if v1 = 0 then (f_X12_isWord σ l0 631).bind fun v2 => if v2 = 0 then (f_X12_isWord σ l0 632).bind fun v3 => if v3 = 0 then some 0 else some 1 else some 1 else some 1)
  refine tr_aload_n (i := 0) dX12_isSignHere_0 rfl ?_
  refine tr_ldcs 30 (tx := "base") (by decide) (by decide +kernel) dX12_isSignHere_1 ?_
  refine tr_c_i (ms_cV (rest := []) (al := [.ref 630]) 12 (sp_X12_isWord G hG (d - 1) (by omega) σ l0 630 h0 (⟨by decide, by decide⟩)) h0 (by decide +kernel) kl_X12_406 fv_X12_isWord dX12_isSignHere_3 (show _ = some 1 by decide +kernel) (by omega) (Nat.le_of_ble_eq_true rfl) (by decide) (by decide)) (fun v1 => ?_)
  refine tr_ifne (o := none) (tgt := 27) dX12_isSignHere_6 (by decide) ?_ ?_
  · refine tr_iconst (v := 1) dX12_isSignHere_27 (by decide +kernel) ?_
    refine tr_goto (tgt := 32) dX12_isSignHere_28 (by decide) ?_
    exact tr_zret rfl (by decide +kernel) rfl (by decide) (by decide) dX12_isSignHere_32
  · refine tr_aload_n (i := 0) dX12_isSignHere_9 rfl ?_
    refine tr_ldcs 31 (tx := "mark") (by decide) (by decide +kernel) dX12_isSignHere_10 ?_
    refine tr_c_i (ms_cV (rest := []) (al := [.ref 631]) 12 (sp_X12_isWord G hG (d - 1) (by omega) σ l0 631 h0 (⟨by decide, by decide⟩)) h0 (by decide +kernel) kl_X12_406 fv_X12_isWord dX12_isSignHere_12 (show _ = some 1 by decide +kernel) (by omega) (Nat.le_of_ble_eq_true rfl) (by decide) (by decide)) (fun v2 => ?_)
    refine tr_ifne (o := none) (tgt := 27) dX12_isSignHere_15 (by decide) ?_ ?_
    · refine tr_iconst (v := 1) dX12_isSignHere_27 (by decide +kernel) ?_
      refine tr_goto (tgt := 32) dX12_isSignHere_28 (by decide) ?_
      exact tr_zret rfl (by decide +kernel) rfl (by decide) (by decide) dX12_isSignHere_32
    · refine tr_aload_n (i := 0) dX12_isSignHere_18 rfl ?_
      refine tr_ldcs 32 (tx := "pair") (by decide) (by decide +kernel) dX12_isSignHere_19 ?_
      refine tr_c_i (ms_cV (rest := []) (al := [.ref 632]) 12 (sp_X12_isWord G hG (d - 1) (by omega) σ l0 632 h0 (⟨by decide, by decide⟩)) h0 (by decide +kernel) kl_X12_406 fv_X12_isWord dX12_isSignHere_21 (show _ = some 1 by decide +kernel) (by omega) (Nat.le_of_ble_eq_true rfl) (by decide) (by decide)) (fun v3 => ?_)
      refine tr_ifeq (o := none) (tgt := 31) dX12_isSignHere_24 (by decide) ?_ ?_
      · refine tr_iconst (v := 0) dX12_isSignHere_31 (by decide +kernel) ?_
        exact tr_zret rfl (by decide +kernel) rfl (by decide) (by decide) dX12_isSignHere_32
      · refine tr_iconst (v := 1) dX12_isSignHere_27 (by decide +kernel) ?_
        refine tr_goto (tgt := 32) dX12_isSignHere_28 (by decide) ?_
        exact tr_zret rfl (by decide +kernel) rfl (by decide) (by decide) dX12_isSignHere_32
theorem dX12_readSign_0 : decode cX12_readSign 0 = .ok (.aload_n 0, 1) := by decide +kernel
theorem dX12_readSign_1 : decode cX12_readSign 1 = .ok (.aload_n 0, 1) := by decide +kernel
theorem dX12_readSign_2 : decode cX12_readSign 2 = .ok (.getfield 13, 3) := by decide +kernel
theorem dX12_readSign_5 : decode cX12_readSign 5 = .ok (.iconst 0, 1) := by decide +kernel
theorem dX12_readSign_6 : decode cX12_readSign 6 = .ok (.iaload, 1) := by decide +kernel
theorem dX12_readSign_7 : decode cX12_readSign 7 = .ok (.bipush 40, 2) := by decide +kernel
theorem dX12_readSign_9 : decode cX12_readSign 9 = .ok (.if_icmp .ge 7, 3) := by decide +kernel
theorem dX12_readSign_12 : decode cX12_readSign 12 = .ok (.iconst 1, 1) := by decide +kernel
theorem dX12_readSign_13 : decode cX12_readSign 13 = .ok (.goto 4, 3) := by decide +kernel
theorem dX12_readSign_16 : decode cX12_readSign 16 = .ok (.iconst 0, 1) := by decide +kernel
theorem dX12_readSign_17 : decode cX12_readSign 17 = .ok (.iconst 5, 1) := by decide +kernel
theorem dX12_readSign_18 : decode cX12_readSign 18 = .ok (.invokevirtual 410, 3) := by decide +kernel
theorem dX12_readSign_21 : decode cX12_readSign 21 = .ok (.aload_n 0, 1) := by decide +kernel
theorem dX12_readSign_22 : decode cX12_readSign 22 = .ok (.getfield 384, 3) := by decide +kernel
theorem dX12_readSign_25 : decode cX12_readSign 25 = .ok (.ifCond .eq 4, 3) := by decide +kernel
theorem dX12_readSign_28 : decode cX12_readSign 28 = .ok (.return_, 1) := by decide +kernel
theorem dX12_readSign_29 : decode cX12_readSign 29 = .ok (.aload_n 0, 1) := by decide +kernel
theorem dX12_readSign_30 : decode cX12_readSign 30 = .ok (.getfield 13, 3) := by decide +kernel
theorem dX12_readSign_33 : decode cX12_readSign 33 = .ok (.iconst 0, 1) := by decide +kernel
theorem dX12_readSign_34 : decode cX12_readSign 34 = .ok (.iaload, 1) := by decide +kernel
theorem dX12_readSign_35 : decode cX12_readSign 35 = .ok (.istore_n 1, 1) := by decide +kernel
theorem dX12_readSign_36 : decode cX12_readSign 36 = .ok (.aload_n 0, 1) := by decide +kernel
theorem dX12_readSign_37 : decode cX12_readSign 37 = .ok (.ldc 71, 2) := by decide +kernel
theorem dX12_readSign_39 : decode cX12_readSign 39 = .ok (.invokevirtual 465, 3) := by decide +kernel
theorem dX12_readSign_42 : decode cX12_readSign 42 = .ok (.ifCond .eq 11, 3) := by decide +kernel
theorem dX12_readSign_45 : decode cX12_readSign 45 = .ok (.aload_n 0, 1) := by decide +kernel
theorem dX12_readSign_46 : decode cX12_readSign 46 = .ok (.iload_n 1, 1) := by decide +kernel
theorem dX12_readSign_47 : decode cX12_readSign 47 = .ok (.invokevirtual 468, 3) := by decide +kernel
theorem dX12_readSign_50 : decode cX12_readSign 50 = .ok (.goto 31, 3) := by decide +kernel
theorem dX12_readSign_53 : decode cX12_readSign 53 = .ok (.aload_n 0, 1) := by decide +kernel
theorem dX12_readSign_54 : decode cX12_readSign 54 = .ok (.ldc 73, 2) := by decide +kernel
theorem dX12_readSign_56 : decode cX12_readSign 56 = .ok (.invokevirtual 465, 3) := by decide +kernel
theorem dX12_readSign_59 : decode cX12_readSign 59 = .ok (.ifCond .eq 11, 3) := by decide +kernel
theorem dX12_readSign_62 : decode cX12_readSign 62 = .ok (.aload_n 0, 1) := by decide +kernel
theorem dX12_readSign_63 : decode cX12_readSign 63 = .ok (.iload_n 1, 1) := by decide +kernel
theorem dX12_readSign_64 : decode cX12_readSign 64 = .ok (.invokevirtual 471, 3) := by decide +kernel
theorem dX12_readSign_67 : decode cX12_readSign 67 = .ok (.goto 14, 3) := by decide +kernel
theorem dX12_readSign_70 : decode cX12_readSign 70 = .ok (.aload_n 0, 1) := by decide +kernel
theorem dX12_readSign_71 : decode cX12_readSign 71 = .ok (.ldc 75, 2) := by decide +kernel
theorem dX12_readSign_73 : decode cX12_readSign 73 = .ok (.invokevirtual 474, 3) := by decide +kernel
theorem dX12_readSign_76 : decode cX12_readSign 76 = .ok (.aload_n 0, 1) := by decide +kernel
theorem dX12_readSign_77 : decode cX12_readSign 77 = .ok (.iload_n 1, 1) := by decide +kernel
theorem dX12_readSign_78 : decode cX12_readSign 78 = .ok (.invokevirtual 478, 3) := by decide +kernel
theorem dX12_readSign_81 : decode cX12_readSign 81 = .ok (.aload_n 0, 1) := by decide +kernel
theorem dX12_readSign_82 : decode cX12_readSign 82 = .ok (.getfield 13, 3) := by decide +kernel
theorem dX12_readSign_85 : decode cX12_readSign 85 = .ok (.iconst 0, 1) := by decide +kernel
theorem dX12_readSign_86 : decode cX12_readSign 86 = .ok (.dup2, 1) := by decide +kernel
theorem dX12_readSign_87 : decode cX12_readSign 87 = .ok (.iaload, 1) := by decide +kernel
theorem dX12_readSign_88 : decode cX12_readSign 88 = .ok (.iconst 1, 1) := by decide +kernel
theorem dX12_readSign_89 : decode cX12_readSign 89 = .ok (.iadd, 1) := by decide +kernel
theorem dX12_readSign_90 : decode cX12_readSign 90 = .ok (.iastore, 1) := by decide +kernel
theorem dX12_readSign_91 : decode cX12_readSign 91 = .ok (.aload_n 0, 1) := by decide +kernel
theorem dX12_readSign_92 : decode cX12_readSign 92 = .ok (.bipush 59, 2) := by decide +kernel
theorem dX12_readSign_94 : decode cX12_readSign 94 = .ok (.invokevirtual 481, 3) := by decide +kernel
theorem dX12_readSign_97 : decode cX12_readSign 97 = .ok (.return_, 1) := by decide +kernel
set_option maxRecDepth 100000 in
theorem t_X12_readSign_81 (G : MG) (hG : (g_l G).stackTraces = false) (d : Nat) (hd : 8 ≤ d)    (σ : MsSt) (l0 : Nat) (h0 : ms_kd l0 = 13) : TrO G mX12_readSign d 0 0 0 0 ms_wv 81 [(0, .ref l0)] [] σ (f_X12_readSign_81 σ l0) := by
  show TrO G mX12_readSign d 0 0 0 0 ms_wv 81 [(0, .ref l0)] [] σ ((ms_ald σ (ms_rf l0 1) 0).bind fun v10 => (ms_ast σ (ms_rf l0 1) 0 (v10 + 1)).bind fun s11 => (f_X12_expect s11 l0 59).bind fun s12 => some s12)
  refine tr_aload_n (i := 0) dX12_readSign_81 rfl ?_
  refine tr_getR 12 h0 fl_X12_13 (by decide +kernel) dX12_readSign_82 ?_
  refine tr_iconst (v := 0) dX12_readSign_85 (by decide +kernel) ?_
  refine tr_dup2 dX12_readSign_86 rfl rfl ?_
  refine tr_ald (rk_12_1 h0) dX12_readSign_87 (fun v10 => ?_)
  refine tr_iconst (v := 1) dX12_readSign_88 (by decide +kernel) ?_
  refine tr_iadd dX12_readSign_89 ?_
  refine tr_ast (rk_12_1 h0) dX12_readSign_90 (fun s11 => ?_)
  refine tr_aload_n (i := 0) dX12_readSign_91 rfl ?_
  refine tr_bipush (v := 59) dX12_readSign_92 (by decide +kernel) ?_
  refine tr_c_wv (ms_cV (rest := []) (al := [.int 59]) 12 (sp_X12_expect G hG (d - 1) (by omega) s11 l0 59 h0) h0 (by decide +kernel) kl_X12_481 fv_X12_expect dX12_readSign_94 (show _ = some 1 by decide +kernel) (by omega) (Nat.le_of_ble_eq_true rfl) (by decide) (by decide)) (fun s12 => ?_)
  exact tr_vret rfl rfl (by decide) (by decide) dX12_readSign_97
set_option maxRecDepth 100000 in
theorem t_X12_readSign_17 (G : MG) (hG : (g_l G).stackTraces = false) (d : Nat) (hd : 8 ≤ d)    (σ : MsSt) (l0 : Nat) (t0 : Int32) (t1 : Nat) (h0 : ms_kd l0 = 13) (ht1 : ms_kd t1 = 13) : TrO G mX12_readSign d 0 0 0 0 ms_wv 17 [(0, .ref l0)] [.int t0, .ref t1] σ (f_X12_readSign_17 σ l0 t0 t1) := by
  show TrO G mX12_readSign d 0 0 0 0 ms_wv 17 [(0, .ref l0)] [.int t0, .ref t1] σ ((f_X12_check σ t1 t0 5).bind fun s2 => if (ms_i s2 l0 32) = 0 then (ms_ald s2 (ms_rf l0 1) 0).bind fun v3 => ms_b2 (f_X12_accept s2 l0 630) fun v4 s5 => if v4 = 0 then ms_b2 (f_X12_accept s5 l0 631) fun v6 s7 => if v6 = 0 then (f_X12_expectWord s7 l0 632).bind fun s8 => (f_X12_readPair s8 l0 v3).bind fun s9 => f_X12_readSign_81 s9 l0 else (f_X12_readMark s7 l0 v3).bind fun s13 => f_X12_readSign_81 s13 l0 else (f_X12_readBase s5 l0 v3).bind fun s14 => f_X12_readSign_81 s14 l0 else some s2)
  refine tr_iconst (v := 5) dX12_readSign_17 (by decide +kernel) ?_
  refine tr_c_wv (ms_cV (rest := []) (al := [.int t0, .int 5]) 12 (sp_X12_check G hG (d - 1) (by omega) σ t1 t0 5 ht1) ht1 (by decide +kernel) kl_X12_410 fv_X12_check dX12_readSign_18 (show _ = some 2 by decide +kernel) (by omega) (Nat.le_of_ble_eq_true rfl) (by decide) (by decide)) (fun s2 => ?_)
  refine tr_aload_n (i := 0) dX12_readSign_21 rfl ?_
  refine tr_getI 12 h0 fl_X12_384 (by decide +kernel) dX12_readSign_22 ?_
  refine tr_ifeq (o := none) (tgt := 29) dX12_readSign_25 (by decide) ?_ ?_
  · refine tr_aload_n (i := 0) dX12_readSign_29 rfl ?_
    refine tr_getR 12 h0 fl_X12_13 (by decide +kernel) dX12_readSign_30 ?_
    refine tr_iconst (v := 0) dX12_readSign_33 (by decide +kernel) ?_
    refine tr_ald (rk_12_1 h0) dX12_readSign_34 (fun v3 => ?_)
    refine tr_istore_n (lv' := [(0, .ref l0), (1, .int v3)]) [1, 0] dX12_readSign_35 (by decide) rfl ?_
    refine tr_aload_n (i := 0) dX12_readSign_36 rfl ?_
    refine tr_ldcs 30 (tx := "base") (by decide) (by decide +kernel) dX12_readSign_37 ?_
    refine tr_d_wi (ms_cV (rest := []) (al := [.ref 630]) 12 (sp_X12_accept G hG (d - 1) (by omega) s2 l0 630 h0 (⟨by decide, by decide⟩)) h0 (by decide +kernel) kl_X12_465 fv_X12_accept dX12_readSign_39 (show _ = some 1 by decide +kernel) (by omega) (Nat.le_of_ble_eq_true rfl) (by decide) (by decide)) (fun v4 s5 => ?_)
    refine tr_ifeq (o := none) (tgt := 53) dX12_readSign_42 (by decide) ?_ ?_
    · refine tr_aload_n (i := 0) dX12_readSign_53 rfl ?_
      refine tr_ldcs 31 (tx := "mark") (by decide) (by decide +kernel) dX12_readSign_54 ?_
      refine tr_d_wi (ms_cV (rest := []) (al := [.ref 631]) 12 (sp_X12_accept G hG (d - 1) (by omega) s5 l0 631 h0 (⟨by decide, by decide⟩)) h0 (by decide +kernel) kl_X12_465 fv_X12_accept dX12_readSign_56 (show _ = some 1 by decide +kernel) (by omega) (Nat.le_of_ble_eq_true rfl) (by decide) (by decide)) (fun v6 s7 => ?_)
      refine tr_ifeq (o := none) (tgt := 70) dX12_readSign_59 (by decide) ?_ ?_
      · refine tr_aload_n (i := 0) dX12_readSign_70 rfl ?_
        refine tr_ldcs 32 (tx := "pair") (by decide) (by decide +kernel) dX12_readSign_71 ?_
        refine tr_c_wv (ms_cV (rest := []) (al := [.ref 632]) 12 (sp_X12_expectWord G hG (d - 1) (by omega) s7 l0 632 h0 (⟨by decide, by decide⟩)) h0 (by decide +kernel) kl_X12_474 fv_X12_expectWord dX12_readSign_73 (show _ = some 1 by decide +kernel) (by omega) (Nat.le_of_ble_eq_true rfl) (by decide) (by decide)) (fun s8 => ?_)
        refine tr_aload_n (i := 0) dX12_readSign_76 rfl ?_
        refine tr_iload_n (i := 1) dX12_readSign_77 rfl ?_
        refine tr_c_wv (ms_cV (rest := []) (al := [.int v3]) 12 (sp_X12_readPair G hG (d - 1) (by omega) s8 l0 v3 h0) h0 (by decide +kernel) kl_X12_478 fv_X12_readPair dX12_readSign_78 (show _ = some 1 by decide +kernel) (by omega) (Nat.le_of_ble_eq_true rfl) (by decide) (by decide)) (fun s9 => ?_)
        refine tr_weak [0] (lv' := [(0, .ref l0)]) rfl ?_
        exact t_X12_readSign_81 G hG d hd s9 l0 h0
      · refine tr_aload_n (i := 0) dX12_readSign_62 rfl ?_
        refine tr_iload_n (i := 1) dX12_readSign_63 rfl ?_
        refine tr_c_wv (ms_cV (rest := []) (al := [.int v3]) 12 (sp_X12_readMark G hG (d - 1) (by omega) s7 l0 v3 h0) h0 (by decide +kernel) kl_X12_471 fv_X12_readMark dX12_readSign_64 (show _ = some 1 by decide +kernel) (by omega) (Nat.le_of_ble_eq_true rfl) (by decide) (by decide)) (fun s13 => ?_)
        refine tr_goto (tgt := 81) dX12_readSign_67 (by decide) ?_
        refine tr_weak [0] (lv' := [(0, .ref l0)]) rfl ?_
        exact t_X12_readSign_81 G hG d hd s13 l0 h0
    · refine tr_aload_n (i := 0) dX12_readSign_45 rfl ?_
      refine tr_iload_n (i := 1) dX12_readSign_46 rfl ?_
      refine tr_c_wv (ms_cV (rest := []) (al := [.int v3]) 12 (sp_X12_readBase G hG (d - 1) (by omega) s5 l0 v3 h0) h0 (by decide +kernel) kl_X12_468 fv_X12_readBase dX12_readSign_47 (show _ = some 1 by decide +kernel) (by omega) (Nat.le_of_ble_eq_true rfl) (by decide) (by decide)) (fun s14 => ?_)
      refine tr_goto (tgt := 81) dX12_readSign_50 (by decide) ?_
      refine tr_weak [0] (lv' := [(0, .ref l0)]) rfl ?_
      exact t_X12_readSign_81 G hG d hd s14 l0 h0
  · exact tr_vret rfl rfl (by decide) (by decide) dX12_readSign_28
set_option maxRecDepth 100000 in
theorem sp_X12_readSign (G : MG) (hG : (g_l G).stackTraces = false) (d : Nat) (hd : 8 ≤ d)   (σ : MsSt) (l0 : Nat) (h0 : ms_kd l0 = 13) : MsSpec G mX12_readSign d 0 0 [.ref l0] σ ms_wv (f_X12_readSign σ l0) := by
  refine ms_start (by decide +kernel) rfl rfl (Nat.le_of_ble_eq_true rfl) ?_
  show TrO G mX12_readSign d 0 0 0 0 ms_wv 0 [(0, .ref l0)] [] σ ((ms_ald σ (ms_rf l0 1) 0).bind fun v1 => if v1 < 40 then f_X12_readSign_17 σ l0 1 l0 else f_X12_readSign_17 σ l0 0 l0)
  refine tr_aload_n (i := 0) dX12_readSign_0 rfl ?_
  refine tr_aload_n (i := 0) dX12_readSign_1 rfl ?_
  refine tr_getR 12 h0 fl_X12_13 (by decide +kernel) dX12_readSign_2 ?_
  refine tr_iconst (v := 0) dX12_readSign_5 (by decide +kernel) ?_
  refine tr_ald (rk_12_1 h0) dX12_readSign_6 (fun v1 => ?_)
  refine tr_bipush (v := 40) dX12_readSign_7 (by decide +kernel) ?_
  refine tr_icge (o := none) (tgt := 16) dX12_readSign_9 (by decide) ?_ ?_
  · refine tr_iconst (v := 0) dX12_readSign_16 (by decide +kernel) ?_
    exact t_X12_readSign_17 G hG d hd σ l0 0 l0 h0 h0
  · refine tr_iconst (v := 1) dX12_readSign_12 (by decide +kernel) ?_
    refine tr_goto (tgt := 17) dX12_readSign_13 (by decide) ?_
    exact t_X12_readSign_17 G hG d hd σ l0 1 l0 h0 h0
theorem dX12_readLine_0 : decode cX12_readLine 0 = .ok (.aload_n 0, 1) := by decide +kernel
theorem dX12_readLine_1 : decode cX12_readLine 1 = .ok (.aload_n 0, 1) := by decide +kernel
theorem dX12_readLine_2 : decode cX12_readLine 2 = .ok (.ldc 77, 2) := by decide +kernel
theorem dX12_readLine_4 : decode cX12_readLine 4 = .ok (.invokevirtual 406, 3) := by decide +kernel
theorem dX12_readLine_7 : decode cX12_readLine 7 = .ok (.iconst 1, 1) := by decide +kernel
theorem dX12_readLine_8 : decode cX12_readLine 8 = .ok (.invokevirtual 410, 3) := by decide +kernel
theorem dX12_readLine_11 : decode cX12_readLine 11 = .ok (.aload_n 0, 1) := by decide +kernel
theorem dX12_readLine_12 : decode cX12_readLine 12 = .ok (.aload_n 0, 1) := by decide +kernel
theorem dX12_readLine_13 : decode cX12_readLine 13 = .ok (.getfield 384, 3) := by decide +kernel
theorem dX12_readLine_16 : decode cX12_readLine 16 = .ok (.ifCond .ne 13, 3) := by decide +kernel
theorem dX12_readLine_19 : decode cX12_readLine 19 = .ok (.aload_n 0, 1) := by decide +kernel
theorem dX12_readLine_20 : decode cX12_readLine 20 = .ok (.getfield 13, 3) := by decide +kernel
theorem dX12_readLine_23 : decode cX12_readLine 23 = .ok (.iconst 1, 1) := by decide +kernel
theorem dX12_readLine_24 : decode cX12_readLine 24 = .ok (.iaload, 1) := by decide +kernel
theorem dX12_readLine_25 : decode cX12_readLine 25 = .ok (.iconst 4, 1) := by decide +kernel
theorem dX12_readLine_26 : decode cX12_readLine 26 = .ok (.if_icmp .ge 7, 3) := by decide +kernel
theorem dX12_readLine_29 : decode cX12_readLine 29 = .ok (.iconst 1, 1) := by decide +kernel
theorem dX12_readLine_30 : decode cX12_readLine 30 = .ok (.goto 4, 3) := by decide +kernel
theorem dX12_readLine_33 : decode cX12_readLine 33 = .ok (.iconst 0, 1) := by decide +kernel
theorem dX12_readLine_34 : decode cX12_readLine 34 = .ok (.iconst 5, 1) := by decide +kernel
theorem dX12_readLine_35 : decode cX12_readLine 35 = .ok (.invokevirtual 410, 3) := by decide +kernel
theorem dX12_readLine_38 : decode cX12_readLine 38 = .ok (.aload_n 0, 1) := by decide +kernel
theorem dX12_readLine_39 : decode cX12_readLine 39 = .ok (.getfield 384, 3) := by decide +kernel
theorem dX12_readLine_42 : decode cX12_readLine 42 = .ok (.ifCond .eq 4, 3) := by decide +kernel
theorem dX12_readLine_45 : decode cX12_readLine 45 = .ok (.return_, 1) := by decide +kernel
theorem dX12_readLine_46 : decode cX12_readLine 46 = .ok (.aload_n 0, 1) := by decide +kernel
theorem dX12_readLine_47 : decode cX12_readLine 47 = .ok (.getfield 13, 3) := by decide +kernel
theorem dX12_readLine_50 : decode cX12_readLine 50 = .ok (.iconst 1, 1) := by decide +kernel
theorem dX12_readLine_51 : decode cX12_readLine 51 = .ok (.iaload, 1) := by decide +kernel
theorem dX12_readLine_52 : decode cX12_readLine 52 = .ok (.istore_n 1, 1) := by decide +kernel
theorem dX12_readLine_53 : decode cX12_readLine 53 = .ok (.aload_n 0, 1) := by decide +kernel
theorem dX12_readLine_54 : decode cX12_readLine 54 = .ok (.getfield 13, 3) := by decide +kernel
theorem dX12_readLine_57 : decode cX12_readLine 57 = .ok (.iconst 1, 1) := by decide +kernel
theorem dX12_readLine_58 : decode cX12_readLine 58 = .ok (.dup2, 1) := by decide +kernel
theorem dX12_readLine_59 : decode cX12_readLine 59 = .ok (.iaload, 1) := by decide +kernel
theorem dX12_readLine_60 : decode cX12_readLine 60 = .ok (.iconst 1, 1) := by decide +kernel
theorem dX12_readLine_61 : decode cX12_readLine 61 = .ok (.iadd, 1) := by decide +kernel
theorem dX12_readLine_62 : decode cX12_readLine 62 = .ok (.iastore, 1) := by decide +kernel
theorem dX12_readLine_63 : decode cX12_readLine 63 = .ok (.aload_n 0, 1) := by decide +kernel
theorem dX12_readLine_64 : decode cX12_readLine 64 = .ok (.invokevirtual 414, 3) := by decide +kernel
theorem dX12_readLine_67 : decode cX12_readLine 67 = .ok (.aload_n 0, 1) := by decide +kernel
theorem dX12_readLine_68 : decode cX12_readLine 68 = .ok (.getfield 384, 3) := by decide +kernel
theorem dX12_readLine_71 : decode cX12_readLine 71 = .ok (.ifCond .ne 90, 3) := by decide +kernel
theorem dX12_readLine_74 : decode cX12_readLine 74 = .ok (.aload_n 0, 1) := by decide +kernel
theorem dX12_readLine_75 : decode cX12_readLine 75 = .ok (.getfield 375, 3) := by decide +kernel
theorem dX12_readLine_78 : decode cX12_readLine 78 = .ok (.iconst 1, 1) := by decide +kernel
theorem dX12_readLine_79 : decode cX12_readLine 79 = .ok (.if_icmp .ne 82, 3) := by decide +kernel
theorem dX12_readLine_82 : decode cX12_readLine 82 = .ok (.aload_n 0, 1) := by decide +kernel
theorem dX12_readLine_83 : decode cX12_readLine 83 = .ok (.invokevirtual 460, 3) := by decide +kernel
theorem dX12_readLine_86 : decode cX12_readLine 86 = .ok (.istore_n 2, 1) := by decide +kernel
theorem dX12_readLine_87 : decode cX12_readLine 87 = .ok (.aload_n 0, 1) := by decide +kernel
theorem dX12_readLine_88 : decode cX12_readLine 88 = .ok (.aload_n 0, 1) := by decide +kernel
theorem dX12_readLine_89 : decode cX12_readLine 89 = .ok (.getfield 384, 3) := by decide +kernel
theorem dX12_readLine_92 : decode cX12_readLine 92 = .ok (.ifCond .ne 16, 3) := by decide +kernel
theorem dX12_readLine_95 : decode cX12_readLine 95 = .ok (.aload_n 0, 1) := by decide +kernel
theorem dX12_readLine_96 : decode cX12_readLine 96 = .ok (.getfield 13, 3) := by decide +kernel
theorem dX12_readLine_99 : decode cX12_readLine 99 = .ok (.iconst 3, 1) := by decide +kernel
theorem dX12_readLine_100 : decode cX12_readLine 100 = .ok (.iload_n 1, 1) := by decide +kernel
theorem dX12_readLine_101 : decode cX12_readLine 101 = .ok (.iadd, 1) := by decide +kernel
theorem dX12_readLine_102 : decode cX12_readLine 102 = .ok (.iaload, 1) := by decide +kernel
theorem dX12_readLine_103 : decode cX12_readLine 103 = .ok (.bipush 60, 2) := by decide +kernel
theorem dX12_readLine_105 : decode cX12_readLine 105 = .ok (.if_icmp .ge 7, 3) := by decide +kernel
theorem dX12_readLine_108 : decode cX12_readLine 108 = .ok (.iconst 1, 1) := by decide +kernel
theorem dX12_readLine_109 : decode cX12_readLine 109 = .ok (.goto 4, 3) := by decide +kernel
theorem dX12_readLine_112 : decode cX12_readLine 112 = .ok (.iconst 0, 1) := by decide +kernel
theorem dX12_readLine_113 : decode cX12_readLine 113 = .ok (.iconst 5, 1) := by decide +kernel
theorem dX12_readLine_114 : decode cX12_readLine 114 = .ok (.invokevirtual 410, 3) := by decide +kernel
theorem dX12_readLine_117 : decode cX12_readLine 117 = .ok (.aload_n 0, 1) := by decide +kernel
theorem dX12_readLine_118 : decode cX12_readLine 118 = .ok (.getfield 384, 3) := by decide +kernel
theorem dX12_readLine_121 : decode cX12_readLine 121 = .ok (.ifCond .ne 33, 3) := by decide +kernel
theorem dX12_readLine_124 : decode cX12_readLine 124 = .ok (.aload_n 0, 1) := by decide +kernel
theorem dX12_readLine_125 : decode cX12_readLine 125 = .ok (.getfield 13, 3) := by decide +kernel
theorem dX12_readLine_128 : decode cX12_readLine 128 = .ok (.iload_n 1, 1) := by decide +kernel
theorem dX12_readLine_129 : decode cX12_readLine 129 = .ok (.aload_n 0, 1) := by decide +kernel
theorem dX12_readLine_130 : decode cX12_readLine 130 = .ok (.getfield 13, 3) := by decide +kernel
theorem dX12_readLine_133 : decode cX12_readLine 133 = .ok (.iconst 3, 1) := by decide +kernel
theorem dX12_readLine_134 : decode cX12_readLine 134 = .ok (.iload_n 1, 1) := by decide +kernel
theorem dX12_readLine_135 : decode cX12_readLine 135 = .ok (.iadd, 1) := by decide +kernel
theorem dX12_readLine_136 : decode cX12_readLine 136 = .ok (.iaload, 1) := by decide +kernel
theorem dX12_readLine_137 : decode cX12_readLine 137 = .ok (.invokestatic 149, 3) := by decide +kernel
theorem dX12_readLine_140 : decode cX12_readLine 140 = .ok (.iload_n 2, 1) := by decide +kernel
theorem dX12_readLine_141 : decode cX12_readLine 141 = .ok (.iastore, 1) := by decide +kernel
theorem dX12_readLine_142 : decode cX12_readLine 142 = .ok (.aload_n 0, 1) := by decide +kernel
theorem dX12_readLine_143 : decode cX12_readLine 143 = .ok (.getfield 13, 3) := by decide +kernel
theorem dX12_readLine_146 : decode cX12_readLine 146 = .ok (.iconst 3, 1) := by decide +kernel
theorem dX12_readLine_147 : decode cX12_readLine 147 = .ok (.iload_n 1, 1) := by decide +kernel
theorem dX12_readLine_148 : decode cX12_readLine 148 = .ok (.iadd, 1) := by decide +kernel
theorem dX12_readLine_149 : decode cX12_readLine 149 = .ok (.dup2, 1) := by decide +kernel
theorem dX12_readLine_150 : decode cX12_readLine 150 = .ok (.iaload, 1) := by decide +kernel
theorem dX12_readLine_151 : decode cX12_readLine 151 = .ok (.iconst 1, 1) := by decide +kernel
theorem dX12_readLine_152 : decode cX12_readLine 152 = .ok (.iadd, 1) := by decide +kernel
theorem dX12_readLine_153 : decode cX12_readLine 153 = .ok (.iastore, 1) := by decide +kernel
theorem dX12_readLine_154 : decode cX12_readLine 154 = .ok (.aload_n 0, 1) := by decide +kernel
theorem dX12_readLine_155 : decode cX12_readLine 155 = .ok (.invokevirtual 414, 3) := by decide +kernel
theorem dX12_readLine_158 : decode cX12_readLine 158 = .ok (.goto (-91), 3) := by decide +kernel
theorem dX12_readLine_161 : decode cX12_readLine 161 = .ok (.aload_n 0, 1) := by decide +kernel
theorem dX12_readLine_162 : decode cX12_readLine 162 = .ok (.bipush 59, 2) := by decide +kernel
theorem dX12_readLine_164 : decode cX12_readLine 164 = .ok (.invokevirtual 481, 3) := by decide +kernel
theorem dX12_readLine_167 : decode cX12_readLine 167 = .ok (.return_, 1) := by decide +kernel
set_option maxRecDepth 100000 in
theorem t_X12_readLine_113 (G : MG) (hG : (g_l G).stackTraces = false) (d : Nat) (hd : 7 ≤ d)   (k67 : MsSt → Nat → Int32 → Option (MsSt)) (hk67 : ∀ (s : MsSt) (x1 : Nat) (x2 : Int32), ms_kd x1 = 13 → TrO G mX12_readLine d 0 0 0 0 ms_wv 67 [(0, .ref x1), (1, .int x2)] [] s (k67 s x1 x2)) (σ : MsSt) (l0 : Nat) (l1 : Int32) (l2 : Int32) (t0 : Int32) (t1 : Nat) (h0 : ms_kd l0 = 13) (ht1 : ms_kd t1 = 13) : TrO G mX12_readLine d 0 0 0 0 ms_wv 113 [(0, .ref l0), (1, .int l1), (2, .int l2)] [.int t0, .ref t1] σ (f_X12_readLine_113 k67 σ l0 l1 l2 t0 t1) := by
  show TrO G mX12_readLine d 0 0 0 0 ms_wv 113 [(0, .ref l0), (1, .int l1), (2, .int l2)] [.int t0, .ref t1] σ ((f_X12_check σ t1 t0 5).bind fun s12 => if (ms_i s12 l0 32) = 0 then (ms_ald s12 (ms_rf l0 1) (3 + l1)).bind fun v14 => (f_X12_spot s12 l1 v14).bind fun v15 => (ms_ast s12 (ms_rf l0 1) v15 l2).bind fun s16 => (ms_ald s16 (ms_rf l0 1) (3 + l1)).bind fun v17 => (ms_ast s16 (ms_rf l0 1) (3 + l1) (v17 + 1)).bind fun s18 => (f_X12_advance s18 l0).bind fun s19 => k67 s19 l0 l1 else (f_X12_advance s12 l0).bind fun s13 => k67 s13 l0 l1)
  refine tr_iconst (v := 5) dX12_readLine_113 (by decide +kernel) ?_
  refine tr_c_wv (ms_cV (rest := []) (al := [.int t0, .int 5]) 12 (sp_X12_check G hG (d - 1) (by omega) σ t1 t0 5 ht1) ht1 (by decide +kernel) kl_X12_410 fv_X12_check dX12_readLine_114 (show _ = some 2 by decide +kernel) (by omega) (Nat.le_of_ble_eq_true rfl) (by decide) (by decide)) (fun s12 => ?_)
  refine tr_aload_n (i := 0) dX12_readLine_117 rfl ?_
  refine tr_getI 12 h0 fl_X12_384 (by decide +kernel) dX12_readLine_118 ?_
  refine tr_ifne (o := none) (tgt := 154) dX12_readLine_121 (by decide) ?_ ?_
  · refine tr_aload_n (i := 0) dX12_readLine_154 rfl ?_
    refine tr_c_wv (ms_cV (rest := []) (al := []) 12 (sp_X12_advance G hG (d - 1) (by omega) s12 l0 h0) h0 (by decide +kernel) kl_X12_414 fv_X12_advance dX12_readLine_155 (show _ = some 0 by decide +kernel) (by omega) (Nat.le_of_ble_eq_true rfl) (by decide) (by decide)) (fun s13 => ?_)
    refine tr_goto (tgt := 67) dX12_readLine_158 (by decide) ?_
    refine tr_weak [0, 1] (lv' := [(0, .ref l0), (1, .int l1)]) rfl ?_
    exact hk67 s13 l0 l1 h0
  · refine tr_aload_n (i := 0) dX12_readLine_124 rfl ?_
    refine tr_getR 12 h0 fl_X12_13 (by decide +kernel) dX12_readLine_125 ?_
    refine tr_iload_n (i := 1) dX12_readLine_128 rfl ?_
    refine tr_aload_n (i := 0) dX12_readLine_129 rfl ?_
    refine tr_getR 12 h0 fl_X12_13 (by decide +kernel) dX12_readLine_130 ?_
    refine tr_iconst (v := 3) dX12_readLine_133 (by decide +kernel) ?_
    refine tr_iload_n (i := 1) dX12_readLine_134 rfl ?_
    refine tr_iadd dX12_readLine_135 ?_
    refine tr_ald (rk_12_1 h0) dX12_readLine_136 (fun v14 => ?_)
    refine tr_c_i (ms_cS (rest := [.ref (ms_rf l0 1)]) (al := [.int l1, .int v14]) (sp_X12_spot G hG (d - 1) (by omega) s12 l1 v14) kl_X12_149 fs_X12_spot dX12_readLine_137 (show _ = some 2 by decide +kernel) (by omega) (Nat.le_of_ble_eq_true rfl) (by decide) (by decide)) (fun v15 => ?_)
    refine tr_iload_n (i := 2) dX12_readLine_140 rfl ?_
    refine tr_ast (rk_12_1 h0) dX12_readLine_141 (fun s16 => ?_)
    refine tr_aload_n (i := 0) dX12_readLine_142 rfl ?_
    refine tr_getR 12 h0 fl_X12_13 (by decide +kernel) dX12_readLine_143 ?_
    refine tr_iconst (v := 3) dX12_readLine_146 (by decide +kernel) ?_
    refine tr_iload_n (i := 1) dX12_readLine_147 rfl ?_
    refine tr_iadd dX12_readLine_148 ?_
    refine tr_dup2 dX12_readLine_149 rfl rfl ?_
    refine tr_ald (rk_12_1 h0) dX12_readLine_150 (fun v17 => ?_)
    refine tr_iconst (v := 1) dX12_readLine_151 (by decide +kernel) ?_
    refine tr_iadd dX12_readLine_152 ?_
    refine tr_ast (rk_12_1 h0) dX12_readLine_153 (fun s18 => ?_)
    refine tr_aload_n (i := 0) dX12_readLine_154 rfl ?_
    refine tr_c_wv (ms_cV (rest := []) (al := []) 12 (sp_X12_advance G hG (d - 1) (by omega) s18 l0 h0) h0 (by decide +kernel) kl_X12_414 fv_X12_advance dX12_readLine_155 (show _ = some 0 by decide +kernel) (by omega) (Nat.le_of_ble_eq_true rfl) (by decide) (by decide)) (fun s19 => ?_)
    refine tr_goto (tgt := 67) dX12_readLine_158 (by decide) ?_
    refine tr_weak [0, 1] (lv' := [(0, .ref l0), (1, .int l1)]) rfl ?_
    exact hk67 s19 l0 l1 h0
set_option maxRecDepth 100000 in
theorem t_X12_readLine_108 (G : MG) (hG : (g_l G).stackTraces = false) (d : Nat) (hd : 7 ≤ d)   (k67 : MsSt → Nat → Int32 → Option (MsSt)) (hk67 : ∀ (s : MsSt) (x1 : Nat) (x2 : Int32), ms_kd x1 = 13 → TrO G mX12_readLine d 0 0 0 0 ms_wv 67 [(0, .ref x1), (1, .int x2)] [] s (k67 s x1 x2)) (σ : MsSt) (l0 : Nat) (l1 : Int32) (l2 : Int32) (t0 : Nat) (h0 : ms_kd l0 = 13) (ht0 : ms_kd t0 = 13) : TrO G mX12_readLine d 0 0 0 0 ms_wv 108 [(0, .ref l0), (1, .int l1), (2, .int l2)] [.ref t0] σ (f_X12_readLine_108 k67 σ l0 l1 l2 t0) := by
  show TrO G mX12_readLine d 0 0 0 0 ms_wv 108 [(0, .ref l0), (1, .int l1), (2, .int l2)] [.ref t0] σ (f_X12_readLine_113 k67 σ l0 l1 l2 1 t0)
  refine tr_iconst (v := 1) dX12_readLine_108 (by decide +kernel) ?_
  refine tr_goto (tgt := 113) dX12_readLine_109 (by decide) ?_
  exact t_X12_readLine_113 G hG d hd k67 hk67 σ l0 l1 l2 1 t0 h0 ht0
set_option maxRecDepth 100000 in
theorem t_X12_readLine_67 (G : MG) (hG : (g_l G).stackTraces = false) (d : Nat) (hd : 7 ≤ d)    : ∀ (n : Nat) (σ : MsSt) (l0 : Nat) (l1 : Int32) (h0 : ms_kd l0 = 13), TrO G mX12_readLine d 0 0 0 0 ms_wv 67 [(0, .ref l0), (1, .int l1)] [] σ (f_X12_readLine_67 n σ l0 l1) := by
  intro n
  induction n with
  | zero => exact fun _ _ _ _ => tr_none
  | succ n ih =>
    intro σ l0 l1 h0
    show TrO G mX12_readLine d 0 0 0 0 ms_wv 67 [(0, .ref l0), (1, .int l1)] [] σ (if (ms_i σ l0 32) = 0 then if (ms_i σ l0 31) = 1 then ms_b2 (f_X12_lookSign σ l0) fun v10 s11 => if (ms_i s11 l0 32) = 0 then (ms_ald s11 (ms_rf l0 1) (3 + l1)).bind fun v20 => if v20 < 60 then f_X12_readLine_108 (f_X12_readLine_67 n) s11 l0 l1 v10 l0 else f_X12_readLine_113 (f_X12_readLine_67 n) s11 l0 l1 v10 0 l0 else f_X12_readLine_108 (f_X12_readLine_67 n) s11 l0 l1 v10 l0 else (f_X12_expect σ l0 59).bind fun s9 => some s9 else (f_X12_expect σ l0 59).bind fun s8 => some s8)
    refine tr_aload_n (i := 0) dX12_readLine_67 rfl ?_
    refine tr_getI 12 h0 fl_X12_384 (by decide +kernel) dX12_readLine_68 ?_
    refine tr_ifne (o := none) (tgt := 161) dX12_readLine_71 (by decide) ?_ ?_
    · refine tr_aload_n (i := 0) dX12_readLine_161 rfl ?_
      refine tr_bipush (v := 59) dX12_readLine_162 (by decide +kernel) ?_
      refine tr_c_wv (ms_cV (rest := []) (al := [.int 59]) 12 (sp_X12_expect G hG (d - 1) (by omega) σ l0 59 h0) h0 (by decide +kernel) kl_X12_481 fv_X12_expect dX12_readLine_164 (show _ = some 1 by decide +kernel) (by omega) (Nat.le_of_ble_eq_true rfl) (by decide) (by decide)) (fun s8 => ?_)
      exact tr_vret rfl rfl (by decide) (by decide) dX12_readLine_167
    · refine tr_aload_n (i := 0) dX12_readLine_74 rfl ?_
      refine tr_getI 12 h0 fl_X12_375 (by decide +kernel) dX12_readLine_75 ?_
      refine tr_iconst (v := 1) dX12_readLine_78 (by decide +kernel) ?_
      refine tr_icne (o := none) (tgt := 161) dX12_readLine_79 (by decide) ?_ ?_
      · refine tr_aload_n (i := 0) dX12_readLine_161 rfl ?_
        refine tr_bipush (v := 59) dX12_readLine_162 (by decide +kernel) ?_
        refine tr_c_wv (ms_cV (rest := []) (al := [.int 59]) 12 (sp_X12_expect G hG (d - 1) (by omega) σ l0 59 h0) h0 (by decide +kernel) kl_X12_481 fv_X12_expect dX12_readLine_164 (show _ = some 1 by decide +kernel) (by omega) (Nat.le_of_ble_eq_true rfl) (by decide) (by decide)) (fun s9 => ?_)
        exact tr_vret rfl rfl (by decide) (by decide) dX12_readLine_167
      · refine tr_aload_n (i := 0) dX12_readLine_82 rfl ?_
        refine tr_d_wi (ms_cV (rest := []) (al := []) 12 (sp_X12_lookSign G hG (d - 1) (by omega) σ l0 h0) h0 (by decide +kernel) kl_X12_460 fv_X12_lookSign dX12_readLine_83 (show _ = some 0 by decide +kernel) (by omega) (Nat.le_of_ble_eq_true rfl) (by decide) (by decide)) (fun v10 s11 => ?_)
        refine tr_istore_n (lv' := [(0, .ref l0), (1, .int l1), (2, .int v10)]) [1, 2, 0] dX12_readLine_86 (by decide) rfl ?_
        refine tr_aload_n (i := 0) dX12_readLine_87 rfl ?_
        refine tr_aload_n (i := 0) dX12_readLine_88 rfl ?_
        refine tr_getI 12 h0 fl_X12_384 (by decide +kernel) dX12_readLine_89 ?_
        refine tr_ifne (o := none) (tgt := 108) dX12_readLine_92 (by decide) ?_ ?_
        · exact t_X12_readLine_108 G hG d hd (f_X12_readLine_67 n) (fun s y0 y1 g0 => ih s y0 y1 g0) s11 l0 l1 v10 l0 h0 h0
        · refine tr_aload_n (i := 0) dX12_readLine_95 rfl ?_
          refine tr_getR 12 h0 fl_X12_13 (by decide +kernel) dX12_readLine_96 ?_
          refine tr_iconst (v := 3) dX12_readLine_99 (by decide +kernel) ?_
          refine tr_iload_n (i := 1) dX12_readLine_100 rfl ?_
          refine tr_iadd dX12_readLine_101 ?_
          refine tr_ald (rk_12_1 h0) dX12_readLine_102 (fun v20 => ?_)
          refine tr_bipush (v := 60) dX12_readLine_103 (by decide +kernel) ?_
          refine tr_icge (o := none) (tgt := 112) dX12_readLine_105 (by decide) ?_ ?_
          · refine tr_iconst (v := 0) dX12_readLine_112 (by decide +kernel) ?_
            exact t_X12_readLine_113 G hG d hd (f_X12_readLine_67 n) (fun s y0 y1 g0 => ih s y0 y1 g0) s11 l0 l1 v10 0 l0 h0 h0
          · exact t_X12_readLine_108 G hG d hd (f_X12_readLine_67 n) (fun s y0 y1 g0 => ih s y0 y1 g0) s11 l0 l1 v10 l0 h0 h0
set_option maxRecDepth 100000 in
theorem t_X12_readLine_34 (G : MG) (hG : (g_l G).stackTraces = false) (d : Nat) (hd : 7 ≤ d)    (σ : MsSt) (l0 : Nat) (t0 : Int32) (t1 : Nat) (h0 : ms_kd l0 = 13) (ht1 : ms_kd t1 = 13) : TrO G mX12_readLine d 0 0 0 0 ms_wv 34 [(0, .ref l0)] [.int t0, .ref t1] σ (f_X12_readLine_34 σ l0 t0 t1) := by
  show TrO G mX12_readLine d 0 0 0 0 ms_wv 34 [(0, .ref l0)] [.int t0, .ref t1] σ ((f_X12_check σ t1 t0 5).bind fun s3 => if (ms_i s3 l0 32) = 0 then (ms_ald s3 (ms_rf l0 1) 1).bind fun v4 => (ms_ald s3 (ms_rf l0 1) 1).bind fun v5 => (ms_ast s3 (ms_rf l0 1) 1 (v5 + 1)).bind fun s6 => (f_X12_advance s6 l0).bind fun s7 => f_X12_readLine_67 ms_fuel s7 l0 v4 else some s3)
  refine tr_iconst (v := 5) dX12_readLine_34 (by decide +kernel) ?_
  refine tr_c_wv (ms_cV (rest := []) (al := [.int t0, .int 5]) 12 (sp_X12_check G hG (d - 1) (by omega) σ t1 t0 5 ht1) ht1 (by decide +kernel) kl_X12_410 fv_X12_check dX12_readLine_35 (show _ = some 2 by decide +kernel) (by omega) (Nat.le_of_ble_eq_true rfl) (by decide) (by decide)) (fun s3 => ?_)
  refine tr_aload_n (i := 0) dX12_readLine_38 rfl ?_
  refine tr_getI 12 h0 fl_X12_384 (by decide +kernel) dX12_readLine_39 ?_
  refine tr_ifeq (o := none) (tgt := 46) dX12_readLine_42 (by decide) ?_ ?_
  · refine tr_aload_n (i := 0) dX12_readLine_46 rfl ?_
    refine tr_getR 12 h0 fl_X12_13 (by decide +kernel) dX12_readLine_47 ?_
    refine tr_iconst (v := 1) dX12_readLine_50 (by decide +kernel) ?_
    refine tr_ald (rk_12_1 h0) dX12_readLine_51 (fun v4 => ?_)
    refine tr_istore_n (lv' := [(0, .ref l0), (1, .int v4)]) [1, 0] dX12_readLine_52 (by decide) rfl ?_
    refine tr_aload_n (i := 0) dX12_readLine_53 rfl ?_
    refine tr_getR 12 h0 fl_X12_13 (by decide +kernel) dX12_readLine_54 ?_
    refine tr_iconst (v := 1) dX12_readLine_57 (by decide +kernel) ?_
    refine tr_dup2 dX12_readLine_58 rfl rfl ?_
    refine tr_ald (rk_12_1 h0) dX12_readLine_59 (fun v5 => ?_)
    refine tr_iconst (v := 1) dX12_readLine_60 (by decide +kernel) ?_
    refine tr_iadd dX12_readLine_61 ?_
    refine tr_ast (rk_12_1 h0) dX12_readLine_62 (fun s6 => ?_)
    refine tr_aload_n (i := 0) dX12_readLine_63 rfl ?_
    refine tr_c_wv (ms_cV (rest := []) (al := []) 12 (sp_X12_advance G hG (d - 1) (by omega) s6 l0 h0) h0 (by decide +kernel) kl_X12_414 fv_X12_advance dX12_readLine_64 (show _ = some 0 by decide +kernel) (by omega) (Nat.le_of_ble_eq_true rfl) (by decide) (by decide)) (fun s7 => ?_)
    exact t_X12_readLine_67 G hG d hd ms_fuel s7 l0 v4 h0
  · exact tr_vret rfl rfl (by decide) (by decide) dX12_readLine_45
set_option maxRecDepth 100000 in
theorem t_X12_readLine_29 (G : MG) (hG : (g_l G).stackTraces = false) (d : Nat) (hd : 7 ≤ d)    (σ : MsSt) (l0 : Nat) (t0 : Nat) (h0 : ms_kd l0 = 13) (ht0 : ms_kd t0 = 13) : TrO G mX12_readLine d 0 0 0 0 ms_wv 29 [(0, .ref l0)] [.ref t0] σ (f_X12_readLine_29 σ l0 t0) := by
  show TrO G mX12_readLine d 0 0 0 0 ms_wv 29 [(0, .ref l0)] [.ref t0] σ (f_X12_readLine_34 σ l0 1 t0)
  refine tr_iconst (v := 1) dX12_readLine_29 (by decide +kernel) ?_
  refine tr_goto (tgt := 34) dX12_readLine_30 (by decide) ?_
  exact t_X12_readLine_34 G hG d hd σ l0 1 t0 h0 ht0
set_option maxRecDepth 100000 in
theorem sp_X12_readLine (G : MG) (hG : (g_l G).stackTraces = false) (d : Nat) (hd : 7 ≤ d)   (σ : MsSt) (l0 : Nat) (h0 : ms_kd l0 = 13) : MsSpec G mX12_readLine d 0 0 [.ref l0] σ ms_wv (f_X12_readLine σ l0) := by
  refine ms_start (by decide +kernel) rfl rfl (Nat.le_of_ble_eq_true rfl) ?_
  show TrO G mX12_readLine d 0 0 0 0 ms_wv 0 [(0, .ref l0)] [] σ ((f_X12_isWord σ l0 633).bind fun v1 => (f_X12_check σ l0 v1 1).bind fun s2 => if (ms_i s2 l0 32) = 0 then (ms_ald s2 (ms_rf l0 1) 1).bind fun v21 => if v21 < 4 then f_X12_readLine_29 s2 l0 l0 else f_X12_readLine_34 s2 l0 0 l0 else f_X12_readLine_29 s2 l0 l0)
  refine tr_aload_n (i := 0) dX12_readLine_0 rfl ?_
  refine tr_aload_n (i := 0) dX12_readLine_1 rfl ?_
  refine tr_ldcs 33 (tx := "line") (by decide) (by decide +kernel) dX12_readLine_2 ?_
  refine tr_c_i (ms_cV (rest := [.ref l0]) (al := [.ref 633]) 12 (sp_X12_isWord G hG (d - 1) (by omega) σ l0 633 h0 (⟨by decide, by decide⟩)) h0 (by decide +kernel) kl_X12_406 fv_X12_isWord dX12_readLine_4 (show _ = some 1 by decide +kernel) (by omega) (Nat.le_of_ble_eq_true rfl) (by decide) (by decide)) (fun v1 => ?_)
  refine tr_iconst (v := 1) dX12_readLine_7 (by decide +kernel) ?_
  refine tr_c_wv (ms_cV (rest := []) (al := [.int v1, .int 1]) 12 (sp_X12_check G hG (d - 1) (by omega) σ l0 v1 1 h0) h0 (by decide +kernel) kl_X12_410 fv_X12_check dX12_readLine_8 (show _ = some 2 by decide +kernel) (by omega) (Nat.le_of_ble_eq_true rfl) (by decide) (by decide)) (fun s2 => ?_)
  refine tr_aload_n (i := 0) dX12_readLine_11 rfl ?_
  refine tr_aload_n (i := 0) dX12_readLine_12 rfl ?_
  refine tr_getI 12 h0 fl_X12_384 (by decide +kernel) dX12_readLine_13 ?_
  refine tr_ifne (o := none) (tgt := 29) dX12_readLine_16 (by decide) ?_ ?_
  · exact t_X12_readLine_29 G hG d hd s2 l0 l0 h0 h0
  · refine tr_aload_n (i := 0) dX12_readLine_19 rfl ?_
    refine tr_getR 12 h0 fl_X12_13 (by decide +kernel) dX12_readLine_20 ?_
    refine tr_iconst (v := 1) dX12_readLine_23 (by decide +kernel) ?_
    refine tr_ald (rk_12_1 h0) dX12_readLine_24 (fun v21 => ?_)
    refine tr_iconst (v := 4) dX12_readLine_25 (by decide +kernel) ?_
    refine tr_icge (o := none) (tgt := 33) dX12_readLine_26 (by decide) ?_ ?_
    · refine tr_iconst (v := 0) dX12_readLine_33 (by decide +kernel) ?_
      exact t_X12_readLine_34 G hG d hd s2 l0 0 l0 h0 h0
    · exact t_X12_readLine_29 G hG d hd s2 l0 l0 h0 h0
theorem dX12_readAll_0 : decode cX12_readAll 0 = .ok (.aload_n 0, 1) := by decide +kernel
theorem dX12_readAll_1 : decode cX12_readAll 1 = .ok (.getfield 384, 3) := by decide +kernel
theorem dX12_readAll_4 : decode cX12_readAll 4 = .ok (.ifCond .ne 17, 3) := by decide +kernel
theorem dX12_readAll_7 : decode cX12_readAll 7 = .ok (.aload_n 0, 1) := by decide +kernel
theorem dX12_readAll_8 : decode cX12_readAll 8 = .ok (.invokevirtual 484, 3) := by decide +kernel
theorem dX12_readAll_11 : decode cX12_readAll 11 = .ok (.ifCond .eq 10, 3) := by decide +kernel
theorem dX12_readAll_14 : decode cX12_readAll 14 = .ok (.aload_n 0, 1) := by decide +kernel
theorem dX12_readAll_15 : decode cX12_readAll 15 = .ok (.invokevirtual 487, 3) := by decide +kernel
theorem dX12_readAll_18 : decode cX12_readAll 18 = .ok (.goto (-18), 3) := by decide +kernel
theorem dX12_readAll_21 : decode cX12_readAll 21 = .ok (.aload_n 0, 1) := by decide +kernel
theorem dX12_readAll_22 : decode cX12_readAll 22 = .ok (.invokevirtual 490, 3) := by decide +kernel
theorem dX12_readAll_25 : decode cX12_readAll 25 = .ok (.aload_n 0, 1) := by decide +kernel
theorem dX12_readAll_26 : decode cX12_readAll 26 = .ok (.getfield 384, 3) := by decide +kernel
theorem dX12_readAll_29 : decode cX12_readAll 29 = .ok (.ifCond .ne 19, 3) := by decide +kernel
theorem dX12_readAll_32 : decode cX12_readAll 32 = .ok (.aload_n 0, 1) := by decide +kernel
theorem dX12_readAll_33 : decode cX12_readAll 33 = .ok (.ldc 77, 2) := by decide +kernel
theorem dX12_readAll_35 : decode cX12_readAll 35 = .ok (.invokevirtual 406, 3) := by decide +kernel
theorem dX12_readAll_38 : decode cX12_readAll 38 = .ok (.ifCond .eq 10, 3) := by decide +kernel
theorem dX12_readAll_41 : decode cX12_readAll 41 = .ok (.aload_n 0, 1) := by decide +kernel
theorem dX12_readAll_42 : decode cX12_readAll 42 = .ok (.invokevirtual 490, 3) := by decide +kernel
theorem dX12_readAll_45 : decode cX12_readAll 45 = .ok (.goto (-20), 3) := by decide +kernel
theorem dX12_readAll_48 : decode cX12_readAll 48 = .ok (.aload_n 0, 1) := by decide +kernel
theorem dX12_readAll_49 : decode cX12_readAll 49 = .ok (.ldc 79, 2) := by decide +kernel
theorem dX12_readAll_51 : decode cX12_readAll 51 = .ok (.invokevirtual 465, 3) := by decide +kernel
theorem dX12_readAll_54 : decode cX12_readAll 54 = .ok (.ifCond .eq 28, 3) := by decide +kernel
theorem dX12_readAll_57 : decode cX12_readAll 57 = .ok (.aload_n 0, 1) := by decide +kernel
theorem dX12_readAll_58 : decode cX12_readAll 58 = .ok (.getfield 13, 3) := by decide +kernel
theorem dX12_readAll_61 : decode cX12_readAll 61 = .ok (.iconst 2, 1) := by decide +kernel
theorem dX12_readAll_62 : decode cX12_readAll 62 = .ok (.aload_n 0, 1) := by decide +kernel
theorem dX12_readAll_63 : decode cX12_readAll 63 = .ok (.iconst 0, 1) := by decide +kernel
theorem dX12_readAll_64 : decode cX12_readAll 64 = .ok (.aload_n 0, 1) := by decide +kernel
theorem dX12_readAll_65 : decode cX12_readAll 65 = .ok (.getfield 13, 3) := by decide +kernel
theorem dX12_readAll_68 : decode cX12_readAll 68 = .ok (.iconst 1, 1) := by decide +kernel
theorem dX12_readAll_69 : decode cX12_readAll 69 = .ok (.iaload, 1) := by decide +kernel
theorem dX12_readAll_70 : decode cX12_readAll 70 = .ok (.iconst 1, 1) := by decide +kernel
theorem dX12_readAll_71 : decode cX12_readAll 71 = .ok (.isub, 1) := by decide +kernel
theorem dX12_readAll_72 : decode cX12_readAll 72 = .ok (.invokevirtual 451, 3) := by decide +kernel
theorem dX12_readAll_75 : decode cX12_readAll 75 = .ok (.iastore, 1) := by decide +kernel
theorem dX12_readAll_76 : decode cX12_readAll 76 = .ok (.aload_n 0, 1) := by decide +kernel
theorem dX12_readAll_77 : decode cX12_readAll 77 = .ok (.bipush 59, 2) := by decide +kernel
theorem dX12_readAll_79 : decode cX12_readAll 79 = .ok (.invokevirtual 481, 3) := by decide +kernel
theorem dX12_readAll_82 : decode cX12_readAll 82 = .ok (.aload_n 0, 1) := by decide +kernel
theorem dX12_readAll_83 : decode cX12_readAll 83 = .ok (.aload_n 0, 1) := by decide +kernel
theorem dX12_readAll_84 : decode cX12_readAll 84 = .ok (.getfield 384, 3) := by decide +kernel
theorem dX12_readAll_87 : decode cX12_readAll 87 = .ok (.ifCond .ne 10, 3) := by decide +kernel
theorem dX12_readAll_90 : decode cX12_readAll 90 = .ok (.aload_n 0, 1) := by decide +kernel
theorem dX12_readAll_91 : decode cX12_readAll 91 = .ok (.getfield 375, 3) := by decide +kernel
theorem dX12_readAll_94 : decode cX12_readAll 94 = .ok (.ifCond .ne 7, 3) := by decide +kernel
theorem dX12_readAll_97 : decode cX12_readAll 97 = .ok (.iconst 1, 1) := by decide +kernel
theorem dX12_readAll_98 : decode cX12_readAll 98 = .ok (.goto 4, 3) := by decide +kernel
theorem dX12_readAll_101 : decode cX12_readAll 101 = .ok (.iconst 0, 1) := by decide +kernel
theorem dX12_readAll_102 : decode cX12_readAll 102 = .ok (.iconst 1, 1) := by decide +kernel
theorem dX12_readAll_103 : decode cX12_readAll 103 = .ok (.invokevirtual 410, 3) := by decide +kernel
theorem dX12_readAll_106 : decode cX12_readAll 106 = .ok (.return_, 1) := by decide +kernel
set_option maxRecDepth 100000 in
theorem t_X12_readAll_82 (G : MG) (hG : (g_l G).stackTraces = false) (d : Nat) (hd : 9 ≤ d)    (σ : MsSt) (l0 : Nat) (h0 : ms_kd l0 = 13) : TrO G mX12_readAll d 0 0 0 0 ms_wv 82 [(0, .ref l0)] [] σ (f_X12_readAll_82 σ l0) := by
  show TrO G mX12_readAll d 0 0 0 0 ms_wv 82 [(0, .ref l0)] [] σ (if (ms_i σ l0 32) = 0 then if (ms_i σ l0 31) = 0 then (f_X12_check σ l0 1 1).bind fun s6 => some s6 else (f_X12_check σ l0 0 1).bind fun s5 => some s5 else (f_X12_check σ l0 1 1).bind fun s4 => some s4)
  refine tr_aload_n (i := 0) dX12_readAll_82 rfl ?_
  refine tr_aload_n (i := 0) dX12_readAll_83 rfl ?_
  refine tr_getI 12 h0 fl_X12_384 (by decide +kernel) dX12_readAll_84 ?_
  refine tr_ifne (o := none) (tgt := 97) dX12_readAll_87 (by decide) ?_ ?_
  · refine tr_iconst (v := 1) dX12_readAll_97 (by decide +kernel) ?_
    refine tr_goto (tgt := 102) dX12_readAll_98 (by decide) ?_
    refine tr_iconst (v := 1) dX12_readAll_102 (by decide +kernel) ?_
    refine tr_c_wv (ms_cV (rest := []) (al := [.int 1, .int 1]) 12 (sp_X12_check G hG (d - 1) (by omega) σ l0 1 1 h0) h0 (by decide +kernel) kl_X12_410 fv_X12_check dX12_readAll_103 (show _ = some 2 by decide +kernel) (by omega) (Nat.le_of_ble_eq_true rfl) (by decide) (by decide)) (fun s4 => ?_)
    exact tr_vret rfl rfl (by decide) (by decide) dX12_readAll_106
  · refine tr_aload_n (i := 0) dX12_readAll_90 rfl ?_
    refine tr_getI 12 h0 fl_X12_375 (by decide +kernel) dX12_readAll_91 ?_
    refine tr_ifne (o := none) (tgt := 101) dX12_readAll_94 (by decide) ?_ ?_
    · refine tr_iconst (v := 0) dX12_readAll_101 (by decide +kernel) ?_
      refine tr_iconst (v := 1) dX12_readAll_102 (by decide +kernel) ?_
      refine tr_c_wv (ms_cV (rest := []) (al := [.int 0, .int 1]) 12 (sp_X12_check G hG (d - 1) (by omega) σ l0 0 1 h0) h0 (by decide +kernel) kl_X12_410 fv_X12_check dX12_readAll_103 (show _ = some 2 by decide +kernel) (by omega) (Nat.le_of_ble_eq_true rfl) (by decide) (by decide)) (fun s5 => ?_)
      exact tr_vret rfl rfl (by decide) (by decide) dX12_readAll_106
    · refine tr_iconst (v := 1) dX12_readAll_97 (by decide +kernel) ?_
      refine tr_goto (tgt := 102) dX12_readAll_98 (by decide) ?_
      refine tr_iconst (v := 1) dX12_readAll_102 (by decide +kernel) ?_
      refine tr_c_wv (ms_cV (rest := []) (al := [.int 1, .int 1]) 12 (sp_X12_check G hG (d - 1) (by omega) σ l0 1 1 h0) h0 (by decide +kernel) kl_X12_410 fv_X12_check dX12_readAll_103 (show _ = some 2 by decide +kernel) (by omega) (Nat.le_of_ble_eq_true rfl) (by decide) (by decide)) (fun s6 => ?_)
      exact tr_vret rfl rfl (by decide) (by decide) dX12_readAll_106
set_option maxRecDepth 100000 in
theorem t_X12_readAll_48 (G : MG) (hG : (g_l G).stackTraces = false) (d : Nat) (hd : 9 ≤ d)    (σ : MsSt) (l0 : Nat) (h0 : ms_kd l0 = 13) : TrO G mX12_readAll d 0 0 0 0 ms_wv 48 [(0, .ref l0)] [] σ (f_X12_readAll_48 σ l0) := by
  show TrO G mX12_readAll d 0 0 0 0 ms_wv 48 [(0, .ref l0)] [] σ (ms_b2 (f_X12_accept σ l0 634) fun v2 s3 => if v2 = 0 then f_X12_readAll_82 s3 l0 else (ms_ald s3 (ms_rf l0 1) 1).bind fun v7 => ms_b2 (f_X12_readNumber s3 l0 0 (v7 - 1)) fun v8 s9 => (ms_ast s9 (ms_rf l0 1) 2 v8).bind fun s10 => (f_X12_expect s10 l0 59).bind fun s11 => f_X12_readAll_82 s11 l0)
  refine tr_aload_n (i := 0) dX12_readAll_48 rfl ?_
  refine tr_ldcs 34 (tx := "hand") (by decide) (by decide +kernel) dX12_readAll_49 ?_
  refine tr_d_wi (ms_cV (rest := []) (al := [.ref 634]) 12 (sp_X12_accept G hG (d - 1) (by omega) σ l0 634 h0 (⟨by decide, by decide⟩)) h0 (by decide +kernel) kl_X12_465 fv_X12_accept dX12_readAll_51 (show _ = some 1 by decide +kernel) (by omega) (Nat.le_of_ble_eq_true rfl) (by decide) (by decide)) (fun v2 s3 => ?_)
  refine tr_ifeq (o := none) (tgt := 82) dX12_readAll_54 (by decide) ?_ ?_
  · exact t_X12_readAll_82 G hG d hd s3 l0 h0
  · refine tr_aload_n (i := 0) dX12_readAll_57 rfl ?_
    refine tr_getR 12 h0 fl_X12_13 (by decide +kernel) dX12_readAll_58 ?_
    refine tr_iconst (v := 2) dX12_readAll_61 (by decide +kernel) ?_
    refine tr_aload_n (i := 0) dX12_readAll_62 rfl ?_
    refine tr_iconst (v := 0) dX12_readAll_63 (by decide +kernel) ?_
    refine tr_aload_n (i := 0) dX12_readAll_64 rfl ?_
    refine tr_getR 12 h0 fl_X12_13 (by decide +kernel) dX12_readAll_65 ?_
    refine tr_iconst (v := 1) dX12_readAll_68 (by decide +kernel) ?_
    refine tr_ald (rk_12_1 h0) dX12_readAll_69 (fun v7 => ?_)
    refine tr_iconst (v := 1) dX12_readAll_70 (by decide +kernel) ?_
    refine tr_isub dX12_readAll_71 ?_
    refine tr_d_wi (ms_cV (rest := [.int 2, .ref (ms_rf l0 1)]) (al := [.int 0, .int (v7 - 1)]) 12 (sp_X12_readNumber G hG (d - 1) (by omega) s3 l0 0 (v7 - 1) h0) h0 (by decide +kernel) kl_X12_451 fv_X12_readNumber dX12_readAll_72 (show _ = some 2 by decide +kernel) (by omega) (Nat.le_of_ble_eq_true rfl) (by decide) (by decide)) (fun v8 s9 => ?_)
    refine tr_ast (rk_12_1 h0) dX12_readAll_75 (fun s10 => ?_)
    refine tr_aload_n (i := 0) dX12_readAll_76 rfl ?_
    refine tr_bipush (v := 59) dX12_readAll_77 (by decide +kernel) ?_
    refine tr_c_wv (ms_cV (rest := []) (al := [.int 59]) 12 (sp_X12_expect G hG (d - 1) (by omega) s10 l0 59 h0) h0 (by decide +kernel) kl_X12_481 fv_X12_expect dX12_readAll_79 (show _ = some 1 by decide +kernel) (by omega) (Nat.le_of_ble_eq_true rfl) (by decide) (by decide)) (fun s11 => ?_)
    exact t_X12_readAll_82 G hG d hd s11 l0 h0
set_option maxRecDepth 100000 in
theorem t_X12_readAll_25 (G : MG) (hG : (g_l G).stackTraces = false) (d : Nat) (hd : 9 ≤ d)    : ∀ (n : Nat) (σ : MsSt) (l0 : Nat) (h0 : ms_kd l0 = 13), TrO G mX12_readAll d 0 0 0 0 ms_wv 25 [(0, .ref l0)] [] σ (f_X12_readAll_25 n σ l0) := by
  intro n
  induction n with
  | zero => exact fun _ _ _ => tr_none
  | succ n ih =>
    intro σ l0 h0
    show TrO G mX12_readAll d 0 0 0 0 ms_wv 25 [(0, .ref l0)] [] σ (if (ms_i σ l0 32) = 0 then (f_X12_isWord σ l0 633).bind fun v12 => if v12 = 0 then f_X12_readAll_48 σ l0 else (f_X12_readLine σ l0).bind fun s13 => (f_X12_readAll_25 n) s13 l0 else f_X12_readAll_48 σ l0)
    refine tr_aload_n (i := 0) dX12_readAll_25 rfl ?_
    refine tr_getI 12 h0 fl_X12_384 (by decide +kernel) dX12_readAll_26 ?_
    refine tr_ifne (o := none) (tgt := 48) dX12_readAll_29 (by decide) ?_ ?_
    · exact t_X12_readAll_48 G hG d hd σ l0 h0
    · refine tr_aload_n (i := 0) dX12_readAll_32 rfl ?_
      refine tr_ldcs 33 (tx := "line") (by decide) (by decide +kernel) dX12_readAll_33 ?_
      refine tr_c_i (ms_cV (rest := []) (al := [.ref 633]) 12 (sp_X12_isWord G hG (d - 1) (by omega) σ l0 633 h0 (⟨by decide, by decide⟩)) h0 (by decide +kernel) kl_X12_406 fv_X12_isWord dX12_readAll_35 (show _ = some 1 by decide +kernel) (by omega) (Nat.le_of_ble_eq_true rfl) (by decide) (by decide)) (fun v12 => ?_)
      refine tr_ifeq (o := none) (tgt := 48) dX12_readAll_38 (by decide) ?_ ?_
      · exact t_X12_readAll_48 G hG d hd σ l0 h0
      · refine tr_aload_n (i := 0) dX12_readAll_41 rfl ?_
        refine tr_c_wv (ms_cV (rest := []) (al := []) 12 (sp_X12_readLine G hG (d - 1) (by omega) σ l0 h0) h0 (by decide +kernel) kl_X12_490 fv_X12_readLine dX12_readAll_42 (show _ = some 0 by decide +kernel) (by omega) (Nat.le_of_ble_eq_true rfl) (by decide) (by decide)) (fun s13 => ?_)
        refine tr_goto (tgt := 25) dX12_readAll_45 (by decide) ?_
        exact (fun s y0 g0 => ih s y0 g0) s13 l0 h0
set_option maxRecDepth 100000 in
theorem t_X12_readAll_0 (G : MG) (hG : (g_l G).stackTraces = false) (d : Nat) (hd : 9 ≤ d)    : ∀ (n : Nat) (σ : MsSt) (l0 : Nat) (h0 : ms_kd l0 = 13), TrO G mX12_readAll d 0 0 0 0 ms_wv 0 [(0, .ref l0)] [] σ (f_X12_readAll_0 n σ l0) := by
  intro n
  induction n with
  | zero => exact fun _ _ _ => tr_none
  | succ n ih =>
    intro σ l0 h0
    show TrO G mX12_readAll d 0 0 0 0 ms_wv 0 [(0, .ref l0)] [] σ (if (ms_i σ l0 32) = 0 then (f_X12_isSignHere σ l0).bind fun v14 => if v14 = 0 then (f_X12_readLine σ l0).bind fun s15 => f_X12_readAll_25 ms_fuel s15 l0 else (f_X12_readSign σ l0).bind fun s16 => (f_X12_readAll_0 n) s16 l0 else (f_X12_readLine σ l0).bind fun s1 => f_X12_readAll_25 ms_fuel s1 l0)
    refine tr_aload_n (i := 0) dX12_readAll_0 rfl ?_
    refine tr_getI 12 h0 fl_X12_384 (by decide +kernel) dX12_readAll_1 ?_
    refine tr_ifne (o := none) (tgt := 21) dX12_readAll_4 (by decide) ?_ ?_
    · refine tr_aload_n (i := 0) dX12_readAll_21 rfl ?_
      refine tr_c_wv (ms_cV (rest := []) (al := []) 12 (sp_X12_readLine G hG (d - 1) (by omega) σ l0 h0) h0 (by decide +kernel) kl_X12_490 fv_X12_readLine dX12_readAll_22 (show _ = some 0 by decide +kernel) (by omega) (Nat.le_of_ble_eq_true rfl) (by decide) (by decide)) (fun s1 => ?_)
      exact t_X12_readAll_25 G hG d hd ms_fuel s1 l0 h0
    · refine tr_aload_n (i := 0) dX12_readAll_7 rfl ?_
      refine tr_c_i (ms_cV (rest := []) (al := []) 12 (sp_X12_isSignHere G hG (d - 1) (by omega) σ l0 h0) h0 (by decide +kernel) kl_X12_484 fv_X12_isSignHere dX12_readAll_8 (show _ = some 0 by decide +kernel) (by omega) (Nat.le_of_ble_eq_true rfl) (by decide) (by decide)) (fun v14 => ?_)
      refine tr_ifeq (o := none) (tgt := 21) dX12_readAll_11 (by decide) ?_ ?_
      · refine tr_aload_n (i := 0) dX12_readAll_21 rfl ?_
        refine tr_c_wv (ms_cV (rest := []) (al := []) 12 (sp_X12_readLine G hG (d - 1) (by omega) σ l0 h0) h0 (by decide +kernel) kl_X12_490 fv_X12_readLine dX12_readAll_22 (show _ = some 0 by decide +kernel) (by omega) (Nat.le_of_ble_eq_true rfl) (by decide) (by decide)) (fun s15 => ?_)
        exact t_X12_readAll_25 G hG d hd ms_fuel s15 l0 h0
      · refine tr_aload_n (i := 0) dX12_readAll_14 rfl ?_
        refine tr_c_wv (ms_cV (rest := []) (al := []) 12 (sp_X12_readSign G hG (d - 1) (by omega) σ l0 h0) h0 (by decide +kernel) kl_X12_487 fv_X12_readSign dX12_readAll_15 (show _ = some 0 by decide +kernel) (by omega) (Nat.le_of_ble_eq_true rfl) (by decide) (by decide)) (fun s16 => ?_)
        refine tr_goto (tgt := 0) dX12_readAll_18 (by decide) ?_
        exact (fun s y0 g0 => ih s y0 g0) s16 l0 h0
set_option maxRecDepth 100000 in
theorem sp_X12_readAll (G : MG) (hG : (g_l G).stackTraces = false) (d : Nat) (hd : 9 ≤ d)   (σ : MsSt) (l0 : Nat) (h0 : ms_kd l0 = 13) : MsSpec G mX12_readAll d 0 0 [.ref l0] σ ms_wv (f_X12_readAll σ l0) := by
  refine ms_start (by decide +kernel) rfl rfl (Nat.le_of_ble_eq_true rfl) ?_
  show TrO G mX12_readAll d 0 0 0 0 ms_wv 0 [(0, .ref l0)] [] σ (f_X12_readAll_0 ms_fuel σ l0)
  exact t_X12_readAll_0 G hG d hd ms_fuel σ l0 h0
theorem dX12_load_0 : decode cX12_load 0 = .ok (.aload_n 0, 1) := by decide +kernel
theorem dX12_load_1 : decode cX12_load 1 = .ok (.iconst 0, 1) := by decide +kernel
theorem dX12_load_2 : decode cX12_load 2 = .ok (.putfield 107, 3) := by decide +kernel
theorem dX12_load_5 : decode cX12_load 5 = .ok (.iload_n 1, 1) := by decide +kernel
theorem dX12_load_6 : decode cX12_load 6 = .ok (.i2l, 1) := by decide +kernel
theorem dX12_load_7 : decode cX12_load 7 = .ok (.lconst 0, 1) := by decide +kernel
theorem dX12_load_8 : decode cX12_load 8 = .ok (.aload_n 0, 1) := by decide +kernel
theorem dX12_load_9 : decode cX12_load 9 = .ok (.getfield 360, 3) := by decide +kernel
theorem dX12_load_12 : decode cX12_load 12 = .ok (.i2l, 1) := by decide +kernel
theorem dX12_load_13 : decode cX12_load 13 = .ok (.invokestatic 110, 3) := by decide +kernel
theorem dX12_load_16 : decode cX12_load 16 = .ok (.ifCond .ne 9, 3) := by decide +kernel
theorem dX12_load_19 : decode cX12_load 19 = .ok (.aload_n 0, 1) := by decide +kernel
theorem dX12_load_20 : decode cX12_load 20 = .ok (.iconst 1, 1) := by decide +kernel
theorem dX12_load_21 : decode cX12_load 21 = .ok (.invokevirtual 230, 3) := by decide +kernel
theorem dX12_load_24 : decode cX12_load 24 = .ok (.ireturn, 1) := by decide +kernel
theorem dX12_load_25 : decode cX12_load 25 = .ok (.iconst 0, 1) := by decide +kernel
theorem dX12_load_26 : decode cX12_load 26 = .ok (.istore_n 2, 1) := by decide +kernel
theorem dX12_load_27 : decode cX12_load 27 = .ok (.iload_n 2, 1) := by decide +kernel
theorem dX12_load_28 : decode cX12_load 28 = .ok (.sipush 527, 3) := by decide +kernel
theorem dX12_load_31 : decode cX12_load 31 = .ok (.if_icmp .ge 16, 3) := by decide +kernel
theorem dX12_load_34 : decode cX12_load 34 = .ok (.aload_n 0, 1) := by decide +kernel
theorem dX12_load_35 : decode cX12_load 35 = .ok (.getfield 13, 3) := by decide +kernel
theorem dX12_load_38 : decode cX12_load 38 = .ok (.iload_n 2, 1) := by decide +kernel
theorem dX12_load_39 : decode cX12_load 39 = .ok (.iconst 0, 1) := by decide +kernel
theorem dX12_load_40 : decode cX12_load 40 = .ok (.iastore, 1) := by decide +kernel
theorem dX12_load_41 : decode cX12_load 41 = .ok (.iinc 2 1, 3) := by decide +kernel
theorem dX12_load_44 : decode cX12_load 44 = .ok (.goto (-17), 3) := by decide +kernel
theorem dX12_load_47 : decode cX12_load 47 = .ok (.aload_n 0, 1) := by decide +kernel
theorem dX12_load_48 : decode cX12_load 48 = .ok (.iload_n 1, 1) := by decide +kernel
theorem dX12_load_49 : decode cX12_load 49 = .ok (.invokevirtual 493, 3) := by decide +kernel
theorem dX12_load_52 : decode cX12_load 52 = .ok (.aload_n 0, 1) := by decide +kernel
theorem dX12_load_53 : decode cX12_load 53 = .ok (.invokevirtual 496, 3) := by decide +kernel
theorem dX12_load_56 : decode cX12_load 56 = .ok (.aload_n 0, 1) := by decide +kernel
theorem dX12_load_57 : decode cX12_load 57 = .ok (.invokevirtual 499, 3) := by decide +kernel
theorem dX12_load_60 : decode cX12_load 60 = .ok (.ifCond .eq 11, 3) := by decide +kernel
theorem dX12_load_63 : decode cX12_load 63 = .ok (.bipush (-10), 2) := by decide +kernel
theorem dX12_load_65 : decode cX12_load 65 = .ok (.aload_n 0, 1) := by decide +kernel
theorem dX12_load_66 : decode cX12_load 66 = .ok (.getfield 384, 3) := by decide +kernel
theorem dX12_load_69 : decode cX12_load 69 = .ok (.isub, 1) := by decide +kernel
theorem dX12_load_70 : decode cX12_load 70 = .ok (.ireturn, 1) := by decide +kernel
theorem dX12_load_71 : decode cX12_load 71 = .ok (.aload_n 0, 1) := by decide +kernel
theorem dX12_load_72 : decode cX12_load 72 = .ok (.getfield 13, 3) := by decide +kernel
theorem dX12_load_75 : decode cX12_load 75 = .ok (.iconst 0, 1) := by decide +kernel
theorem dX12_load_76 : decode cX12_load 76 = .ok (.aload_n 0, 1) := by decide +kernel
theorem dX12_load_77 : decode cX12_load 77 = .ok (.getfield 9, 3) := by decide +kernel
theorem dX12_load_80 : decode cX12_load 80 = .ok (.iconst 0, 1) := by decide +kernel
theorem dX12_load_81 : decode cX12_load 81 = .ok (.invokestatic 352, 3) := by decide +kernel
theorem dX12_load_84 : decode cX12_load 84 = .ok (.iconst 0, 1) := by decide +kernel
theorem dX12_load_85 : decode cX12_load 85 = .ok (.istore_n 2, 1) := by decide +kernel
theorem dX12_load_86 : decode cX12_load 86 = .ok (.iload_n 2, 1) := by decide +kernel
theorem dX12_load_87 : decode cX12_load 87 = .ok (.sipush 160, 3) := by decide +kernel
theorem dX12_load_90 : decode cX12_load 90 = .ok (.if_icmp .ge 21, 3) := by decide +kernel
theorem dX12_load_93 : decode cX12_load 93 = .ok (.aload_n 0, 1) := by decide +kernel
theorem dX12_load_94 : decode cX12_load 94 = .ok (.getfield 22, 3) := by decide +kernel
theorem dX12_load_97 : decode cX12_load 97 = .ok (.iload_n 2, 1) := by decide +kernel
theorem dX12_load_98 : decode cX12_load 98 = .ok (.aload_n 0, 1) := by decide +kernel
theorem dX12_load_99 : decode cX12_load 99 = .ok (.getfield 25, 3) := by decide +kernel
theorem dX12_load_102 : decode cX12_load 102 = .ok (.iload_n 2, 1) := by decide +kernel
theorem dX12_load_103 : decode cX12_load 103 = .ok (.iaload, 1) := by decide +kernel
theorem dX12_load_104 : decode cX12_load 104 = .ok (.iastore, 1) := by decide +kernel
theorem dX12_load_105 : decode cX12_load 105 = .ok (.iinc 2 1, 3) := by decide +kernel
theorem dX12_load_108 : decode cX12_load 108 = .ok (.goto (-22), 3) := by decide +kernel
theorem dX12_load_111 : decode cX12_load 111 = .ok (.aload_n 0, 1) := by decide +kernel
theorem dX12_load_112 : decode cX12_load 112 = .ok (.iconst 0, 1) := by decide +kernel
theorem dX12_load_113 : decode cX12_load 113 = .ok (.putfield 349, 3) := by decide +kernel
theorem dX12_load_116 : decode cX12_load 116 = .ok (.aload_n 0, 1) := by decide +kernel
theorem dX12_load_117 : decode cX12_load 117 = .ok (.iconst 0, 1) := by decide +kernel
theorem dX12_load_118 : decode cX12_load 118 = .ok (.putfield 356, 3) := by decide +kernel
theorem dX12_load_121 : decode cX12_load 121 = .ok (.aload_n 0, 1) := by decide +kernel
theorem dX12_load_122 : decode cX12_load 122 = .ok (.getfield 9, 3) := by decide +kernel
theorem dX12_load_125 : decode cX12_load 125 = .ok (.iconst 0, 1) := by decide +kernel
theorem dX12_load_126 : decode cX12_load 126 = .ok (.iaload, 1) := by decide +kernel
theorem dX12_load_127 : decode cX12_load 127 = .ok (.ireturn, 1) := by decide +kernel
set_option maxRecDepth 100000 in
theorem t_X12_load_86 (G : MG) (hG : (g_l G).stackTraces = false) (d : Nat) (hd : 10 ≤ d)    : ∀ (n : Nat) (σ : MsSt) (l0 : Nat) (l2 : Int32) (h0 : ms_kd l0 = 13), TrO G mX12_load d 0 0 0 0 ms_wi 86 [(0, .ref l0), (2, .int l2)] [] σ (f_X12_load_86 n σ l0 l2) := by
  intro n
  induction n with
  | zero => exact fun _ _ _ _ => tr_none
  | succ n ih =>
    intro σ l0 l2 h0
    show TrO G mX12_load d 0 0 0 0 ms_wi 86 [(0, .ref l0), (2, .int l2)] [] σ (if l2 < 160 then (ms_ald σ (ms_rf l0 5) l2).bind fun v11 => (ms_ast σ (ms_rf l0 4) l2 v11).bind fun s12 => (f_X12_load_86 n) s12 l0 (l2 + 1) else ms_nm (ms_si σ l0 6 0) fun s8 => ms_nm (ms_si s8 l0 8 0) fun s9 => (ms_ald s9 (ms_rf l0 0) 0).bind fun v10 => some (v10, s9))
    refine tr_iload_n (i := 1) dX12_load_86 rfl ?_
    refine tr_sipush (v := 160) dX12_load_87 (by decide +kernel) ?_
    refine tr_icge (o := none) (tgt := 111) dX12_load_90 (by decide) ?_ ?_
    · refine tr_aload_n (i := 0) dX12_load_111 rfl ?_
      refine tr_iconst (v := 0) dX12_load_112 (by decide +kernel) ?_
      refine tr_putI 12 h0 fl_X12_349 (by decide +kernel) dX12_load_113 ?_
      refine ms_ltS (fun s8 => ?_)
      refine tr_aload_n (i := 0) dX12_load_116 rfl ?_
      refine tr_iconst (v := 0) dX12_load_117 (by decide +kernel) ?_
      refine tr_putB 12 h0 fl_X12_356 (by decide +kernel) (by decide) dX12_load_118 ?_
      refine ms_ltS (fun s9 => ?_)
      refine tr_aload_n (i := 0) dX12_load_121 rfl ?_
      refine tr_getR 12 h0 fl_X12_9 (by decide +kernel) dX12_load_122 ?_
      refine tr_iconst (v := 0) dX12_load_125 (by decide +kernel) ?_
      refine tr_ald (rk_12_0 h0) dX12_load_126 (fun v10 => ?_)
      exact tr_iret rfl rfl (by decide) (by decide) dX12_load_127
    · refine tr_aload_n (i := 0) dX12_load_93 rfl ?_
      refine tr_getR 12 h0 fl_X12_22 (by decide +kernel) dX12_load_94 ?_
      refine tr_iload_n (i := 1) dX12_load_97 rfl ?_
      refine tr_aload_n (i := 0) dX12_load_98 rfl ?_
      refine tr_getR 12 h0 fl_X12_25 (by decide +kernel) dX12_load_99 ?_
      refine tr_iload_n (i := 1) dX12_load_102 rfl ?_
      refine tr_ald (rk_12_5 h0) dX12_load_103 (fun v11 => ?_)
      refine tr_ast (rk_12_4 h0) dX12_load_104 (fun s12 => ?_)
      refine tr_iinc (k := 1) (v := (l2 + 1)) (lv' := [(0, .ref l0), (2, .int (l2 + 1))]) [1, 0] dX12_load_105 rfl rfl (by decide) rfl ?_
      refine tr_goto (tgt := 86) dX12_load_108 (by decide) ?_
      exact (fun s y0 y1 g0 => ih s y0 y1 g0) s12 l0 (l2 + 1) h0
set_option maxRecDepth 100000 in
theorem t_X12_load_27 (G : MG) (hG : (g_l G).stackTraces = false) (d : Nat) (hd : 10 ≤ d)    : ∀ (n : Nat) (σ : MsSt) (l0 : Nat) (l1 : Int32) (l2 : Int32) (h0 : ms_kd l0 = 13), TrO G mX12_load d 0 0 0 0 ms_wi 27 [(0, .ref l0), (1, .int l1), (2, .int l2)] [] σ (f_X12_load_27 n σ l0 l1 l2) := by
  intro n
  induction n with
  | zero => exact fun _ _ _ _ _ => tr_none
  | succ n ih =>
    intro σ l0 l1 l2 h0
    show TrO G mX12_load d 0 0 0 0 ms_wi 27 [(0, .ref l0), (1, .int l1), (2, .int l2)] [] σ (if l2 < 527 then (ms_ast σ (ms_rf l0 1) l2 0).bind fun s13 => (f_X12_load_27 n) s13 l0 l1 (l2 + 1) else (f_X12_startText σ l0 l1).bind fun s3 => (f_X12_readAll s3 l0).bind fun s4 => ms_b2 (f_X12_finish s4 l0) fun v5 s6 => if v5 = 0 then (f_X12_copy s6 (ms_rf l0 1) 0 (ms_rf l0 0) 0).bind fun s7 => f_X12_load_86 ms_fuel s7 l0 0 else some (((-10) - (ms_i s6 l0 32)), s6))
    refine tr_iload_n (i := 2) dX12_load_27 rfl ?_
    refine tr_sipush (v := 527) dX12_load_28 (by decide +kernel) ?_
    refine tr_icge (o := none) (tgt := 47) dX12_load_31 (by decide) ?_ ?_
    · refine tr_aload_n (i := 0) dX12_load_47 rfl ?_
      refine tr_iload_n (i := 1) dX12_load_48 rfl ?_
      refine tr_c_wv (ms_cV (rest := []) (al := [.int l1]) 12 (sp_X12_startText G hG (d - 1) (by omega) σ l0 l1 h0) h0 (by decide +kernel) kl_X12_493 fv_X12_startText dX12_load_49 (show _ = some 1 by decide +kernel) (by omega) (Nat.le_of_ble_eq_true rfl) (by decide) (by decide)) (fun s3 => ?_)
      refine tr_aload_n (i := 0) dX12_load_52 rfl ?_
      refine tr_c_wv (ms_cV (rest := []) (al := []) 12 (sp_X12_readAll G hG (d - 1) (by omega) s3 l0 h0) h0 (by decide +kernel) kl_X12_496 fv_X12_readAll dX12_load_53 (show _ = some 0 by decide +kernel) (by omega) (Nat.le_of_ble_eq_true rfl) (by decide) (by decide)) (fun s4 => ?_)
      refine tr_aload_n (i := 0) dX12_load_56 rfl ?_
      refine tr_d_wi (ms_cV (rest := []) (al := []) 12 (sp_X12_finish G hG (d - 1) (by omega) s4 l0 h0) h0 (by decide +kernel) kl_X12_499 fv_X12_finish dX12_load_57 (show _ = some 0 by decide +kernel) (by omega) (Nat.le_of_ble_eq_true rfl) (by decide) (by decide)) (fun v5 s6 => ?_)
      refine tr_ifeq (o := none) (tgt := 71) dX12_load_60 (by decide) ?_ ?_
      · refine tr_aload_n (i := 0) dX12_load_71 rfl ?_
        refine tr_getR 12 h0 fl_X12_13 (by decide +kernel) dX12_load_72 ?_
        refine tr_iconst (v := 0) dX12_load_75 (by decide +kernel) ?_
        refine tr_aload_n (i := 0) dX12_load_76 rfl ?_
        refine tr_getR 12 h0 fl_X12_9 (by decide +kernel) dX12_load_77 ?_
        refine tr_iconst (v := 0) dX12_load_80 (by decide +kernel) ?_
        refine tr_c_wv (ms_cS (rest := []) (al := [.ref (ms_rf l0 1), .int 0, .ref (ms_rf l0 0), .int 0]) (sp_X12_copy G hG (d - 1) (by omega) s6 (ms_rf l0 1) 0 (ms_rf l0 0) 0 (rk_12_1 h0) (rk_12_0 h0)) kl_X12_352 fs_X12_copy dX12_load_81 (show _ = some 4 by decide +kernel) (by omega) (Nat.le_of_ble_eq_true rfl) (by decide) (by decide)) (fun s7 => ?_)
        refine tr_iconst (v := 0) dX12_load_84 (by decide +kernel) ?_
        refine tr_istore_n (lv' := [(0, .ref l0), (2, .int 0)]) [1, 0] dX12_load_85 (by decide) rfl ?_
        exact t_X12_load_86 G hG d hd ms_fuel s7 l0 0 h0
      · refine tr_bipush (v := (-10)) dX12_load_63 (by decide +kernel) ?_
        refine tr_aload_n (i := 0) dX12_load_65 rfl ?_
        refine tr_getI 12 h0 fl_X12_384 (by decide +kernel) dX12_load_66 ?_
        refine tr_isub dX12_load_69 ?_
        exact tr_iret rfl rfl (by decide) (by decide) dX12_load_70
    · refine tr_aload_n (i := 0) dX12_load_34 rfl ?_
      refine tr_getR 12 h0 fl_X12_13 (by decide +kernel) dX12_load_35 ?_
      refine tr_iload_n (i := 2) dX12_load_38 rfl ?_
      refine tr_iconst (v := 0) dX12_load_39 (by decide +kernel) ?_
      refine tr_ast (rk_12_1 h0) dX12_load_40 (fun s13 => ?_)
      refine tr_iinc (k := 2) (v := (l2 + 1)) (lv' := [(0, .ref l0), (1, .int l1), (2, .int (l2 + 1))]) [1, 2, 0] dX12_load_41 rfl rfl (by decide) rfl ?_
      refine tr_goto (tgt := 27) dX12_load_44 (by decide) ?_
      exact (fun s y0 y1 y2 g0 => ih s y0 y1 y2 g0) s13 l0 l1 (l2 + 1) h0
set_option maxRecDepth 100000 in
theorem sp_X12_load (G : MG) (hG : (g_l G).stackTraces = false) (d : Nat) (hd : 10 ≤ d)   (σ : MsSt) (l0 : Nat) (l1 : Int32) (h0 : ms_kd l0 = 13) : MsSpec G mX12_load d 0 0 [.ref l0, .int l1] σ ms_wi (f_X12_load σ l0 l1) := by
  refine ms_start (by decide +kernel) rfl rfl (Nat.le_of_ble_eq_true rfl) ?_
  show TrO G mX12_load d 0 0 0 0 ms_wi 0 [(0, .ref l0), (1, .int l1)] [] σ (ms_nm (ms_si σ l0 7 0) fun s1 => (f_X12_inRange s1 l1.toInt64 0 ((ms_i s1 l0 27).toInt64)).bind fun v2 => if v2 = 0 then ms_b2 (f_X12_raise s1 l0 1) fun v14 s15 => some (v14, s15) else f_X12_load_27 ms_fuel s1 l0 l1 0)
  refine tr_aload_n (i := 0) dX12_load_0 rfl ?_
  refine tr_iconst (v := 0) dX12_load_1 (by decide +kernel) ?_
  refine tr_putI 12 h0 fl_X12_107 (by decide +kernel) dX12_load_2 ?_
  refine ms_ltS (fun s1 => ?_)
  refine tr_iload_n (i := 1) dX12_load_5 rfl ?_
  refine tr_i2l dX12_load_6 ?_
  refine tr_lconst (v := 0) dX12_load_7 (by decide +kernel) ?_
  refine tr_aload_n (i := 0) dX12_load_8 rfl ?_
  refine tr_getI 12 h0 fl_X12_360 (by decide +kernel) dX12_load_9 ?_
  refine tr_i2l dX12_load_12 ?_
  refine tr_c_i (ms_cS (rest := []) (al := [.long l1.toInt64, .long 0, .long ((ms_i s1 l0 27).toInt64)]) (sp_X12_inRange G hG (d - 1) (by omega) s1 l1.toInt64 0 ((ms_i s1 l0 27).toInt64)) kl_X12_110 fs_X12_inRange dX12_load_13 (show _ = some 3 by decide +kernel) (by omega) (Nat.le_of_ble_eq_true rfl) (by decide) (by decide)) (fun v2 => ?_)
  refine tr_ifne (o := none) (tgt := 25) dX12_load_16 (by decide) ?_ ?_
  · refine tr_iconst (v := 0) dX12_load_25 (by decide +kernel) ?_
    refine tr_istore_n (lv' := [(0, .ref l0), (1, .int l1), (2, .int 0)]) [1, 2, 0] dX12_load_26 (by decide) rfl ?_
    exact t_X12_load_27 G hG d hd ms_fuel s1 l0 l1 0 h0
  · refine tr_aload_n (i := 0) dX12_load_19 rfl ?_
    refine tr_iconst (v := 1) dX12_load_20 (by decide +kernel) ?_
    refine tr_d_wi (ms_cV (rest := []) (al := [.int 1]) 12 (sp_X12_raise G hG (d - 1) (by omega) s1 l0 1 h0) h0 (by decide +kernel) kl_X12_230 fv_X12_raise dX12_load_21 (show _ = some 1 by decide +kernel) (by omega) (Nat.le_of_ble_eq_true rfl) (by decide) (by decide)) (fun v14 s15 => ?_)
    exact tr_iret rfl rfl (by decide) (by decide) dX12_load_24
theorem dX12_property_0 : decode cX12_property 0 = .ok (.aload_n 0, 1) := by decide +kernel
theorem dX12_property_1 : decode cX12_property 1 = .ok (.getfield 9, 3) := by decide +kernel
theorem dX12_property_4 : decode cX12_property 4 = .ok (.aload_n 0, 1) := by decide +kernel
theorem dX12_property_5 : decode cX12_property 5 = .ok (.getfield 9, 3) := by decide +kernel
theorem dX12_property_8 : decode cX12_property 8 = .ok (.iconst 2, 1) := by decide +kernel
theorem dX12_property_9 : decode cX12_property 9 = .ok (.iaload, 1) := by decide +kernel
theorem dX12_property_10 : decode cX12_property 10 = .ok (.iload_n 1, 1) := by decide +kernel
theorem dX12_property_11 : decode cX12_property 11 = .ok (.invokestatic 149, 3) := by decide +kernel
theorem dX12_property_14 : decode cX12_property 14 = .ok (.iaload, 1) := by decide +kernel
theorem dX12_property_15 : decode cX12_property 15 = .ok (.istore_n 3, 1) := by decide +kernel
theorem dX12_property_16 : decode cX12_property 16 = .ok (.iload_n 2, 1) := by decide +kernel
theorem dX12_property_17 : decode cX12_property 17 = .ok (.tableswitch 70 0 4 #[35, 37, 39, 50, 61], 35) := by decide +kernel
theorem dX12_property_52 : decode cX12_property 52 = .ok (.iload_n 1, 1) := by decide +kernel
theorem dX12_property_53 : decode cX12_property 53 = .ok (.ireturn, 1) := by decide +kernel
theorem dX12_property_54 : decode cX12_property 54 = .ok (.iload_n 3, 1) := by decide +kernel
theorem dX12_property_55 : decode cX12_property 55 = .ok (.ireturn, 1) := by decide +kernel
theorem dX12_property_56 : decode cX12_property 56 = .ok (.aload_n 0, 1) := by decide +kernel
theorem dX12_property_57 : decode cX12_property 57 = .ok (.getfield 9, 3) := by decide +kernel
theorem dX12_property_60 : decode cX12_property 60 = .ok (.iload_n 3, 1) := by decide +kernel
theorem dX12_property_61 : decode cX12_property 61 = .ok (.iconst 0, 1) := by decide +kernel
theorem dX12_property_62 : decode cX12_property 62 = .ok (.invokestatic 114, 3) := by decide +kernel
theorem dX12_property_65 : decode cX12_property 65 = .ok (.iaload, 1) := by decide +kernel
theorem dX12_property_66 : decode cX12_property 66 = .ok (.ireturn, 1) := by decide +kernel
theorem dX12_property_67 : decode cX12_property 67 = .ok (.aload_n 0, 1) := by decide +kernel
theorem dX12_property_68 : decode cX12_property 68 = .ok (.getfield 9, 3) := by decide +kernel
theorem dX12_property_71 : decode cX12_property 71 = .ok (.iload_n 3, 1) := by decide +kernel
theorem dX12_property_72 : decode cX12_property 72 = .ok (.iconst 1, 1) := by decide +kernel
theorem dX12_property_73 : decode cX12_property 73 = .ok (.invokestatic 114, 3) := by decide +kernel
theorem dX12_property_76 : decode cX12_property 76 = .ok (.iaload, 1) := by decide +kernel
theorem dX12_property_77 : decode cX12_property 77 = .ok (.ireturn, 1) := by decide +kernel
theorem dX12_property_78 : decode cX12_property 78 = .ok (.aload_n 0, 1) := by decide +kernel
theorem dX12_property_79 : decode cX12_property 79 = .ok (.getfield 9, 3) := by decide +kernel
theorem dX12_property_82 : decode cX12_property 82 = .ok (.iload_n 3, 1) := by decide +kernel
theorem dX12_property_83 : decode cX12_property 83 = .ok (.invokestatic 125, 3) := by decide +kernel
theorem dX12_property_86 : decode cX12_property 86 = .ok (.ireturn, 1) := by decide +kernel
theorem dX12_property_87 : decode cX12_property 87 = .ok (.aload_n 0, 1) := by decide +kernel
theorem dX12_property_88 : decode cX12_property 88 = .ok (.aload_n 0, 1) := by decide +kernel
theorem dX12_property_89 : decode cX12_property 89 = .ok (.getfield 9, 3) := by decide +kernel
theorem dX12_property_92 : decode cX12_property 92 = .ok (.iconst 2, 1) := by decide +kernel
theorem dX12_property_93 : decode cX12_property 93 = .ok (.iaload, 1) := by decide +kernel
theorem dX12_property_94 : decode cX12_property 94 = .ok (.iload_n 1, 1) := by decide +kernel
theorem dX12_property_95 : decode cX12_property 95 = .ok (.invokevirtual 277, 3) := by decide +kernel
theorem dX12_property_98 : decode cX12_property 98 = .ok (.ireturn, 1) := by decide +kernel
set_option maxRecDepth 100000 in
theorem sp_X12_property (G : MG) (hG : (g_l G).stackTraces = false) (d : Nat) (hd : 4 ≤ d)   (σ : MsSt) (l0 : Nat) (l1 : Int32) (l2 : Int32) (h0 : ms_kd l0 = 13) : MsSpec G mX12_property d 0 0 [.ref l0, .int l1, .int l2] σ (ms_ki σ) (f_X12_property σ l0 l1 l2) := by
  refine ms_start (by decide +kernel) rfl rfl (Nat.le_of_ble_eq_true rfl) ?_
  show TrO G mX12_property d 0 0 0 0 (ms_ki σ) 0 [(0, .ref l0), (1, .int l1), (2, .int l2)] [] σ ((ms_ald σ (ms_rf l0 0) 2).bind fun v1 => (f_X12_spot σ v1 l1).bind fun v2 => (ms_ald σ (ms_rf l0 0) v2).bind fun v3 => if l2 = 0 then some l1 else if l2 = 1 then some v3 else if l2 = 2 then (f_X12_of σ v3 0).bind fun v6 => (ms_ald σ (ms_rf l0 0) v6).bind fun v7 => some v7 else if l2 = 3 then (f_X12_of σ v3 1).bind fun v8 => (ms_ald σ (ms_rf l0 0) v8).bind fun v9 => some v9 else if l2 = 4 then (f_X12_parts σ (ms_rf l0 0) v3).bind fun v10 => some v10 else (ms_ald σ (ms_rf l0 0) 2).bind fun v4 => (f_X12_clusterAt σ l0 v4 l1).bind fun v5 => some v5)
  refine tr_aload_n (i := 0) dX12_property_0 rfl ?_
  refine tr_getR 12 h0 fl_X12_9 (by decide +kernel) dX12_property_1 ?_
  refine tr_aload_n (i := 0) dX12_property_4 rfl ?_
  refine tr_getR 12 h0 fl_X12_9 (by decide +kernel) dX12_property_5 ?_
  refine tr_iconst (v := 2) dX12_property_8 (by decide +kernel) ?_
  refine tr_ald (rk_12_0 h0) dX12_property_9 (fun v1 => ?_)
  refine tr_iload_n (i := 1) dX12_property_10 rfl ?_
  refine tr_c_i (ms_cS (rest := [.ref (ms_rf l0 0)]) (al := [.int v1, .int l1]) (sp_X12_spot G hG (d - 1) (by omega) σ v1 l1) kl_X12_149 fs_X12_spot dX12_property_11 (show _ = some 2 by decide +kernel) (by omega) (Nat.le_of_ble_eq_true rfl) (by decide) (by decide)) (fun v2 => ?_)
  refine tr_ald (rk_12_0 h0) dX12_property_14 (fun v3 => ?_)
  refine tr_istore_n (lv' := [(0, .ref l0), (1, .int l1), (2, .int l2), (3, .int v3)]) [1, 2, 3, 0] dX12_property_15 (by decide) rfl ?_
  refine tr_iload_n (i := 2) dX12_property_16 rfl ?_
  refine tr_tsIn (tgt := 52) (off := 35) 0 dX12_property_17 (by decide +kernel) (by decide +kernel) (by decide +kernel) (by decide) ?_ (fun n0 => ?_)
  · refine tr_iload_n (i := 1) dX12_property_52 rfl ?_
    exact tr_iret rfl rfl (by decide) (by decide) dX12_property_53
  refine tr_tsIn (tgt := 54) (off := 37) 1 dX12_property_17 (by decide +kernel) (by decide +kernel) (by decide +kernel) (by decide) ?_ (fun n1 => ?_)
  · refine tr_iload_n (i := 3) dX12_property_54 rfl ?_
    exact tr_iret rfl rfl (by decide) (by decide) dX12_property_55
  refine tr_tsIn (tgt := 56) (off := 39) 2 dX12_property_17 (by decide +kernel) (by decide +kernel) (by decide +kernel) (by decide) ?_ (fun n2 => ?_)
  · refine tr_aload_n (i := 0) dX12_property_56 rfl ?_
    refine tr_getR 12 h0 fl_X12_9 (by decide +kernel) dX12_property_57 ?_
    refine tr_iload_n (i := 3) dX12_property_60 rfl ?_
    refine tr_iconst (v := 0) dX12_property_61 (by decide +kernel) ?_
    refine tr_c_i (ms_cS (rest := [.ref (ms_rf l0 0)]) (al := [.int v3, .int 0]) (sp_X12_of G hG (d - 1) (by omega) σ v3 0) kl_X12_114 fs_X12_of dX12_property_62 (show _ = some 2 by decide +kernel) (by omega) (Nat.le_of_ble_eq_true rfl) (by decide) (by decide)) (fun v6 => ?_)
    refine tr_ald (rk_12_0 h0) dX12_property_65 (fun v7 => ?_)
    exact tr_iret rfl rfl (by decide) (by decide) dX12_property_66
  refine tr_tsIn (tgt := 67) (off := 50) 3 dX12_property_17 (by decide +kernel) (by decide +kernel) (by decide +kernel) (by decide) ?_ (fun n3 => ?_)
  · refine tr_aload_n (i := 0) dX12_property_67 rfl ?_
    refine tr_getR 12 h0 fl_X12_9 (by decide +kernel) dX12_property_68 ?_
    refine tr_iload_n (i := 3) dX12_property_71 rfl ?_
    refine tr_iconst (v := 1) dX12_property_72 (by decide +kernel) ?_
    refine tr_c_i (ms_cS (rest := [.ref (ms_rf l0 0)]) (al := [.int v3, .int 1]) (sp_X12_of G hG (d - 1) (by omega) σ v3 1) kl_X12_114 fs_X12_of dX12_property_73 (show _ = some 2 by decide +kernel) (by omega) (Nat.le_of_ble_eq_true rfl) (by decide) (by decide)) (fun v8 => ?_)
    refine tr_ald (rk_12_0 h0) dX12_property_76 (fun v9 => ?_)
    exact tr_iret rfl rfl (by decide) (by decide) dX12_property_77
  refine tr_tsIn (tgt := 78) (off := 61) 4 dX12_property_17 (by decide +kernel) (by decide +kernel) (by decide +kernel) (by decide) ?_ (fun n4 => ?_)
  · refine tr_aload_n (i := 0) dX12_property_78 rfl ?_
    refine tr_getR 12 h0 fl_X12_9 (by decide +kernel) dX12_property_79 ?_
    refine tr_iload_n (i := 3) dX12_property_82 rfl ?_
    refine tr_c_i (ms_cS (rest := []) (al := [.ref (ms_rf l0 0), .int v3]) (sp_X12_parts G hG (d - 1) (by omega) σ (ms_rf l0 0) v3 (rk_12_0 h0)) kl_X12_125 fs_X12_parts dX12_property_83 (show _ = some 2 by decide +kernel) (by omega) (Nat.le_of_ble_eq_true rfl) (by decide) (by decide)) (fun v10 => ?_)
    exact tr_iret rfl rfl (by decide) (by decide) dX12_property_86
  refine tr_tsOut (tgt := 87) dX12_property_17 ?_ (by decide) ?_
  · have q0 := lv_neT (a := 0) n0 (by decide +kernel); have q1 := lv_neT (a := 1) n1 (by decide +kernel); have q2 := lv_neT (a := 2) n2 (by decide +kernel); have q3 := lv_neT (a := 3) n3 (by decide +kernel); have q4 := lv_neT (a := 4) n4 (by decide +kernel); omega
  refine tr_aload_n (i := 0) dX12_property_87 rfl ?_
  refine tr_aload_n (i := 0) dX12_property_88 rfl ?_
  refine tr_getR 12 h0 fl_X12_9 (by decide +kernel) dX12_property_89 ?_
  refine tr_iconst (v := 2) dX12_property_92 (by decide +kernel) ?_
  refine tr_ald (rk_12_0 h0) dX12_property_93 (fun v4 => ?_)
  refine tr_iload_n (i := 1) dX12_property_94 rfl ?_
  refine tr_c_i (ms_cV (rest := []) (al := [.int v4, .int l1]) 12 (sp_X12_clusterAt G hG (d - 1) (by omega) σ l0 v4 l1 h0) h0 (by decide +kernel) kl_X12_277 fv_X12_clusterAt dX12_property_95 (show _ = some 2 by decide +kernel) (by omega) (Nat.le_of_ble_eq_true rfl) (by decide) (by decide)) (fun v5 => ?_)
  exact tr_iret rfl rfl (by decide) (by decide) dX12_property_98
theorem dX12_emit_0 : decode cX12_emit 0 = .ok (.aload_n 0, 1) := by decide +kernel
theorem dX12_emit_1 : decode cX12_emit 1 = .ok (.getfield 384, 3) := by decide +kernel
theorem dX12_emit_4 : decode cX12_emit 4 = .ok (.ifCond .ne 23, 3) := by decide +kernel
theorem dX12_emit_7 : decode cX12_emit 7 = .ok (.aload_n 0, 1) := by decide +kernel
theorem dX12_emit_8 : decode cX12_emit 8 = .ok (.getfield 100, 3) := by decide +kernel
theorem dX12_emit_11 : decode cX12_emit 11 = .ok (.aload_n 0, 1) := by decide +kernel
theorem dX12_emit_12 : decode cX12_emit 12 = .ok (.getfield 502, 3) := by decide +kernel
theorem dX12_emit_15 : decode cX12_emit 15 = .ok (.iload_n 1, 1) := by decide +kernel
theorem dX12_emit_16 : decode cX12_emit 16 = .ok (.iastore, 1) := by decide +kernel
theorem dX12_emit_17 : decode cX12_emit 17 = .ok (.aload_n 0, 1) := by decide +kernel
theorem dX12_emit_18 : decode cX12_emit 18 = .ok (.dup, 1) := by decide +kernel
theorem dX12_emit_19 : decode cX12_emit 19 = .ok (.getfield 502, 3) := by decide +kernel
theorem dX12_emit_22 : decode cX12_emit 22 = .ok (.iconst 1, 1) := by decide +kernel
theorem dX12_emit_23 : decode cX12_emit 23 = .ok (.iadd, 1) := by decide +kernel
theorem dX12_emit_24 : decode cX12_emit 24 = .ok (.putfield 502, 3) := by decide +kernel
theorem dX12_emit_27 : decode cX12_emit 27 = .ok (.return_, 1) := by decide +kernel
set_option maxRecDepth 100000 in
theorem sp_X12_emit (G : MG) (hG : (g_l G).stackTraces = false) (d : Nat) (hd : 0 ≤ d)   (σ : MsSt) (l0 : Nat) (l1 : Int32) (h0 : ms_kd l0 = 13) : MsSpec G mX12_emit d 0 0 [.ref l0, .int l1] σ ms_wv (f_X12_emit σ l0 l1) := by
  refine ms_start (by decide +kernel) rfl rfl (Nat.le_of_ble_eq_true rfl) ?_
  show TrO G mX12_emit d 0 0 0 0 ms_wv 0 [(0, .ref l0), (1, .int l1)] [] σ (if (ms_i σ l0 32) = 0 then (ms_ast σ (ms_rf l0 38) (ms_i σ l0 40) l1).bind fun s1 => ms_nm (ms_si s1 l0 40 ((ms_i s1 l0 40) + 1)) fun s2 => some s2 else some σ)
  refine tr_aload_n (i := 0) dX12_emit_0 rfl ?_
  refine tr_getI 12 h0 fl_X12_384 (by decide +kernel) dX12_emit_1 ?_
  refine tr_ifne (o := none) (tgt := 27) dX12_emit_4 (by decide) ?_ ?_
  · exact tr_vret rfl rfl (by decide) (by decide) dX12_emit_27
  · refine tr_aload_n (i := 0) dX12_emit_7 rfl ?_
    refine tr_getR 12 h0 fl_X12_100 (by decide +kernel) dX12_emit_8 ?_
    refine tr_aload_n (i := 0) dX12_emit_11 rfl ?_
    refine tr_getI 12 h0 fl_X12_502 (by decide +kernel) dX12_emit_12 ?_
    refine tr_iload_n (i := 1) dX12_emit_15 rfl ?_
    refine tr_ast (rk_12_38 h0) dX12_emit_16 (fun s1 => ?_)
    refine tr_aload_n (i := 0) dX12_emit_17 rfl ?_
    refine tr_dup dX12_emit_18 rfl ?_
    refine tr_getI 12 h0 fl_X12_502 (by decide +kernel) dX12_emit_19 ?_
    refine tr_iconst (v := 1) dX12_emit_22 (by decide +kernel) ?_
    refine tr_iadd dX12_emit_23 ?_
    refine tr_putI 12 h0 fl_X12_502 (by decide +kernel) dX12_emit_24 ?_
    refine ms_ltS (fun s2 => ?_)
    exact tr_vret rfl rfl (by decide) (by decide) dX12_emit_27
