/-! X6: the bytecode does what the functions say (by program: wip/whole/gen) -/
theorem dX6_told_0 : decode cX6_told 0 = .ok (.iload_n 1, 1) := by decide +kernel
theorem dX6_told_1 : decode cX6_told 1 = .ok (.ifCond .lt 21, 3) := by decide +kernel
theorem dX6_told_4 : decode cX6_told 4 = .ok (.iload_n 1, 1) := by decide +kernel
theorem dX6_told_5 : decode cX6_told 5 = .ok (.aload_n 0, 1) := by decide +kernel
theorem dX6_told_6 : decode cX6_told 6 = .ok (.getfield 11, 3) := by decide +kernel
theorem dX6_told_9 : decode cX6_told 9 = .ok (.arraylength, 1) := by decide +kernel
theorem dX6_told_10 : decode cX6_told 10 = .ok (.if_icmp .ge 12, 3) := by decide +kernel
theorem dX6_told_13 : decode cX6_told 13 = .ok (.aload_n 0, 1) := by decide +kernel
theorem dX6_told_14 : decode cX6_told 14 = .ok (.getfield 11, 3) := by decide +kernel
theorem dX6_told_17 : decode cX6_told 17 = .ok (.iload_n 1, 1) := by decide +kernel
theorem dX6_told_18 : decode cX6_told 18 = .ok (.aaload, 1) := by decide +kernel
theorem dX6_told_19 : decode cX6_told 19 = .ok (.goto 4, 3) := by decide +kernel
theorem dX6_told_22 : decode cX6_told 22 = .ok (.aconst_null, 1) := by decide +kernel
theorem dX6_told_23 : decode cX6_told 23 = .ok (.astore_n 2, 1) := by decide +kernel
theorem dX6_told_24 : decode cX6_told 24 = .ok (.aload_n 2, 1) := by decide +kernel
theorem dX6_told_25 : decode cX6_told 25 = .ok (.ifnonnull 10, 3) := by decide +kernel
theorem dX6_told_28 : decode cX6_told 28 = .ok (.aload_n 0, 1) := by decide +kernel
theorem dX6_told_29 : decode cX6_told 29 = .ok (.getfield 27, 3) := by decide +kernel
theorem dX6_told_32 : decode cX6_told 32 = .ok (.goto 4, 3) := by decide +kernel
theorem dX6_told_35 : decode cX6_told 35 = .ok (.aload_n 2, 1) := by decide +kernel
theorem dX6_told_36 : decode cX6_told 36 = .ok (.areturn, 1) := by decide +kernel
set_option maxRecDepth 100000 in
theorem sp_X6_told (G : MG) (hG : (g_l G).stackTraces = false) (d : Nat) (hd : 0 ≤ d)   (σ : MsSt) (l0 : Nat) (l1 : Int32) (h0 : ms_kd l0 = 7) : MsSpec G mX6_told d 0 0 [.ref l0, .int l1] σ (ms_ka σ) (f_X6_told σ l0 l1) := by
  refine ms_start (by decide +kernel) rfl rfl (Nat.le_of_ble_eq_true rfl) ?_
  show TrO G mX6_told d 0 0 0 0 (ms_ka σ) 0 [(0, .ref l0), (1, .int l1)] [] σ (if l1 < 0 then some (ms_rf l0 2) else if l1 < (Int32.ofNat (ms_ln (ms_rf l0 0))) then (ms_ala (ms_rf l0 0) l1).bind fun v1 => some v1 else some (ms_rf l0 2))
  refine tr_iload_n (i := 1) dX6_told_0 rfl ?_
  refine tr_iflt (o := none) (tgt := 22) dX6_told_1 (by decide) ?_ ?_
  · refine tr_null dX6_told_22 ?_
    refine tr_astore_nN (lv' := [(0, .ref l0), (2, .null)]) [1, 0] dX6_told_23 (by decide) rfl ?_
    refine tr_aload_nN (i := 1) dX6_told_24 rfl ?_
    refine tr_ifnonnullN dX6_told_25 ?_
    refine tr_aload_n (i := 0) dX6_told_28 rfl ?_
    refine tr_getR 6 h0 fl_X6_27 (by decide +kernel) dX6_told_29 ?_
    refine tr_goto (tgt := 36) dX6_told_32 (by decide) ?_
    exact tr_aret rfl rfl (by decide) (by decide) dX6_told_36
  · refine tr_iload_n (i := 1) dX6_told_4 rfl ?_
    refine tr_aload_n (i := 0) dX6_told_5 rfl ?_
    refine tr_getR 6 h0 fl_X6_11 (by decide +kernel) dX6_told_6 ?_
    refine tr_len 4 (rk_6_0 h0) (by decide) dX6_told_9 ?_
    refine tr_icge (o := none) (tgt := 22) dX6_told_10 (by decide) ?_ ?_
    · refine tr_null dX6_told_22 ?_
      refine tr_astore_nN (lv' := [(0, .ref l0), (2, .null)]) [1, 0] dX6_told_23 (by decide) rfl ?_
      refine tr_aload_nN (i := 1) dX6_told_24 rfl ?_
      refine tr_ifnonnullN dX6_told_25 ?_
      refine tr_aload_n (i := 0) dX6_told_28 rfl ?_
      refine tr_getR 6 h0 fl_X6_27 (by decide +kernel) dX6_told_29 ?_
      refine tr_goto (tgt := 36) dX6_told_32 (by decide) ?_
      exact tr_aret rfl rfl (by decide) (by decide) dX6_told_36
    · refine tr_aload_n (i := 0) dX6_told_13 rfl ?_
      refine tr_getR 6 h0 fl_X6_11 (by decide +kernel) dX6_told_14 ?_
      refine tr_iload_n (i := 1) dX6_told_17 rfl ?_
      refine tr_ala 4 (rk_6_0 h0) (by decide) (by decide) dX6_told_18 (fun v1 e_v1 => ?_)
      refine tr_goto (tgt := 23) dX6_told_19 (by decide) ?_
      refine tr_astore_n (lv' := [(0, .ref l0), (2, .ref v1)]) [1, 0] dX6_told_23 (by decide) rfl ?_
      refine tr_aload_n (i := 1) dX6_told_24 rfl ?_
      refine tr_ifnonnull (tgt := 35) dX6_told_25 (by decide) ?_
      refine tr_aload_n (i := 1) dX6_told_35 rfl ?_
      exact tr_aret rfl rfl (by decide) (by decide) dX6_told_36
theorem dX6_widthOf_0 : decode cX6_widthOf 0 = .ok (.iload_n 1, 1) := by decide +kernel
theorem dX6_widthOf_1 : decode cX6_widthOf 1 = .ok (.iconst (-1), 1) := by decide +kernel
theorem dX6_widthOf_2 : decode cX6_widthOf 2 = .ok (.if_icmp .ne 7, 3) := by decide +kernel
theorem dX6_widthOf_5 : decode cX6_widthOf 5 = .ok (.iconst 0, 1) := by decide +kernel
theorem dX6_widthOf_6 : decode cX6_widthOf 6 = .ok (.goto 11, 3) := by decide +kernel
theorem dX6_widthOf_9 : decode cX6_widthOf 9 = .ok (.aload_n 0, 1) := by decide +kernel
theorem dX6_widthOf_10 : decode cX6_widthOf 10 = .ok (.iload_n 1, 1) := by decide +kernel
theorem dX6_widthOf_11 : decode cX6_widthOf 11 = .ok (.invokevirtual 52, 3) := by decide +kernel
theorem dX6_widthOf_14 : decode cX6_widthOf 14 = .ok (.getfield 62, 3) := by decide +kernel
theorem dX6_widthOf_17 : decode cX6_widthOf 17 = .ok (.ireturn, 1) := by decide +kernel
set_option maxRecDepth 100000 in
theorem sp_X6_widthOf (G : MG) (hG : (g_l G).stackTraces = false) (d : Nat) (hd : 1 ≤ d)   (σ : MsSt) (l0 : Nat) (l1 : Int32) (h0 : ms_kd l0 = 7) : MsSpec G mX6_widthOf d 0 0 [.ref l0, .int l1] σ (ms_ki σ) (f_X6_widthOf σ l0 l1) := by
  refine ms_start (by decide +kernel) rfl rfl (Nat.le_of_ble_eq_true rfl) ?_
  show TrO G mX6_widthOf d 0 0 0 0 (ms_ki σ) 0 [(0, .ref l0), (1, .int l1)] [] σ (if l1 = (-1) then some 0 else (f_X6_told σ l0 l1).bind fun v1 => some (ms_i σ v1 6))
  refine tr_iload_n (i := 1) dX6_widthOf_0 rfl ?_
  refine tr_iconst (v := (-1)) dX6_widthOf_1 (by decide +kernel) ?_
  refine tr_icne (o := none) (tgt := 9) dX6_widthOf_2 (by decide) ?_ ?_
  · refine tr_aload_n (i := 0) dX6_widthOf_9 rfl ?_
    refine tr_iload_n (i := 1) dX6_widthOf_10 rfl ?_
    refine tr_c_a (ms_cV (rest := []) (al := [.int l1]) 6 (sp_X6_told G hG (d - 1) (by omega) σ l0 l1 h0) h0 (by decide +kernel) kl_X6_52 fv_X6_told dX6_widthOf_11 (show _ = some 1 by decide +kernel) (by omega) (Nat.le_of_ble_eq_true rfl) (by decide) (by decide)) (fun v1 e_v1 => ?_)
    refine tr_getI 7 (ra_X6_told h0 e_v1) fl_X6_62 (by decide +kernel) dX6_widthOf_14 ?_
    exact tr_iret rfl rfl (by decide) (by decide) dX6_widthOf_17
  · refine tr_iconst (v := 0) dX6_widthOf_5 (by decide +kernel) ?_
    refine tr_goto (tgt := 17) dX6_widthOf_6 (by decide) ?_
    exact tr_iret rfl rfl (by decide) (by decide) dX6_widthOf_17
theorem dX6_kindOf_0 : decode cX6_kindOf 0 = .ok (.aload_n 0, 1) := by decide +kernel
theorem dX6_kindOf_1 : decode cX6_kindOf 1 = .ok (.iload_n 1, 1) := by decide +kernel
theorem dX6_kindOf_2 : decode cX6_kindOf 2 = .ok (.invokevirtual 52, 3) := by decide +kernel
theorem dX6_kindOf_5 : decode cX6_kindOf 5 = .ok (.getfield 56, 3) := by decide +kernel
theorem dX6_kindOf_8 : decode cX6_kindOf 8 = .ok (.ireturn, 1) := by decide +kernel
set_option maxRecDepth 100000 in
theorem sp_X6_kindOf (G : MG) (hG : (g_l G).stackTraces = false) (d : Nat) (hd : 1 ≤ d)   (σ : MsSt) (l0 : Nat) (l1 : Int32) (h0 : ms_kd l0 = 7) : MsSpec G mX6_kindOf d 0 0 [.ref l0, .int l1] σ (ms_ki σ) (f_X6_kindOf σ l0 l1) := by
  refine ms_start (by decide +kernel) rfl rfl (Nat.le_of_ble_eq_true rfl) ?_
  show TrO G mX6_kindOf d 0 0 0 0 (ms_ki σ) 0 [(0, .ref l0), (1, .int l1)] [] σ ((f_X6_told σ l0 l1).bind fun v1 => some (ms_i σ v1 1))
  refine tr_aload_n (i := 0) dX6_kindOf_0 rfl ?_
  refine tr_iload_n (i := 1) dX6_kindOf_1 rfl ?_
  refine tr_c_a (ms_cV (rest := []) (al := [.int l1]) 6 (sp_X6_told G hG (d - 1) (by omega) σ l0 l1 h0) h0 (by decide +kernel) kl_X6_52 fv_X6_told dX6_kindOf_2 (show _ = some 1 by decide +kernel) (by omega) (Nat.le_of_ble_eq_true rfl) (by decide) (by decide)) (fun v1 e_v1 => ?_)
  refine tr_getI 7 (ra_X6_told h0 e_v1) fl_X6_56 (by decide +kernel) dX6_kindOf_5 ?_
  exact tr_iret rfl rfl (by decide) (by decide) dX6_kindOf_8
theorem dX6_classOf_0 : decode cX6_classOf 0 = .ok (.aload_n 0, 1) := by decide +kernel
theorem dX6_classOf_1 : decode cX6_classOf 1 = .ok (.iload_n 1, 1) := by decide +kernel
theorem dX6_classOf_2 : decode cX6_classOf 2 = .ok (.invokevirtual 52, 3) := by decide +kernel
theorem dX6_classOf_5 : decode cX6_classOf 5 = .ok (.getfield 59, 3) := by decide +kernel
theorem dX6_classOf_8 : decode cX6_classOf 8 = .ok (.ireturn, 1) := by decide +kernel
set_option maxRecDepth 100000 in
theorem sp_X6_classOf (G : MG) (hG : (g_l G).stackTraces = false) (d : Nat) (hd : 1 ≤ d)   (σ : MsSt) (l0 : Nat) (l1 : Int32) (h0 : ms_kd l0 = 7) : MsSpec G mX6_classOf d 0 0 [.ref l0, .int l1] σ (ms_ki σ) (f_X6_classOf σ l0 l1) := by
  refine ms_start (by decide +kernel) rfl rfl (Nat.le_of_ble_eq_true rfl) ?_
  show TrO G mX6_classOf d 0 0 0 0 (ms_ki σ) 0 [(0, .ref l0), (1, .int l1)] [] σ ((f_X6_told σ l0 l1).bind fun v1 => some (ms_i σ v1 4))
  refine tr_aload_n (i := 0) dX6_classOf_0 rfl ?_
  refine tr_iload_n (i := 1) dX6_classOf_1 rfl ?_
  refine tr_c_a (ms_cV (rest := []) (al := [.int l1]) 6 (sp_X6_told G hG (d - 1) (by omega) σ l0 l1 h0) h0 (by decide +kernel) kl_X6_52 fv_X6_told dX6_classOf_2 (show _ = some 1 by decide +kernel) (by omega) (Nat.le_of_ble_eq_true rfl) (by decide) (by decide)) (fun v1 e_v1 => ?_)
  refine tr_getI 7 (ra_X6_told h0 e_v1) fl_X6_59 (by decide +kernel) dX6_classOf_5 ?_
  exact tr_iret rfl rfl (by decide) (by decide) dX6_classOf_8
theorem dX6_findPair_0 : decode cX6_findPair 0 = .ok (.iconst 0, 1) := by decide +kernel
theorem dX6_findPair_1 : decode cX6_findPair 1 = .ok (.istore_n 3, 1) := by decide +kernel
theorem dX6_findPair_2 : decode cX6_findPair 2 = .ok (.iload_n 3, 1) := by decide +kernel
theorem dX6_findPair_3 : decode cX6_findPair 3 = .ok (.aload_n 0, 1) := by decide +kernel
theorem dX6_findPair_4 : decode cX6_findPair 4 = .ok (.getfield 35, 3) := by decide +kernel
theorem dX6_findPair_7 : decode cX6_findPair 7 = .ok (.if_icmp .ge 45, 3) := by decide +kernel
theorem dX6_findPair_10 : decode cX6_findPair 10 = .ok (.aload_n 0, 1) := by decide +kernel
theorem dX6_findPair_11 : decode cX6_findPair 11 = .ok (.iload_n 3, 1) := by decide +kernel
theorem dX6_findPair_12 : decode cX6_findPair 12 = .ok (.invokevirtual 52, 3) := by decide +kernel
theorem dX6_findPair_15 : decode cX6_findPair 15 = .ok (.astore 4, 2) := by decide +kernel
theorem dX6_findPair_17 : decode cX6_findPair 17 = .ok (.aload 4, 2) := by decide +kernel
theorem dX6_findPair_19 : decode cX6_findPair 19 = .ok (.getfield 56, 3) := by decide +kernel
theorem dX6_findPair_22 : decode cX6_findPair 22 = .ok (.iconst 2, 1) := by decide +kernel
theorem dX6_findPair_23 : decode cX6_findPair 23 = .ok (.if_icmp .ne 23, 3) := by decide +kernel
theorem dX6_findPair_26 : decode cX6_findPair 26 = .ok (.aload 4, 2) := by decide +kernel
theorem dX6_findPair_28 : decode cX6_findPair 28 = .ok (.getfield 83, 3) := by decide +kernel
theorem dX6_findPair_31 : decode cX6_findPair 31 = .ok (.iload_n 1, 1) := by decide +kernel
theorem dX6_findPair_32 : decode cX6_findPair 32 = .ok (.if_icmp .ne 14, 3) := by decide +kernel
theorem dX6_findPair_35 : decode cX6_findPair 35 = .ok (.aload 4, 2) := by decide +kernel
theorem dX6_findPair_37 : decode cX6_findPair 37 = .ok (.getfield 86, 3) := by decide +kernel
theorem dX6_findPair_40 : decode cX6_findPair 40 = .ok (.iload_n 2, 1) := by decide +kernel
theorem dX6_findPair_41 : decode cX6_findPair 41 = .ok (.if_icmp .ne 5, 3) := by decide +kernel
theorem dX6_findPair_44 : decode cX6_findPair 44 = .ok (.iload_n 3, 1) := by decide +kernel
theorem dX6_findPair_45 : decode cX6_findPair 45 = .ok (.ireturn, 1) := by decide +kernel
theorem dX6_findPair_46 : decode cX6_findPair 46 = .ok (.iinc 3 1, 3) := by decide +kernel
theorem dX6_findPair_49 : decode cX6_findPair 49 = .ok (.goto (-47), 3) := by decide +kernel
theorem dX6_findPair_52 : decode cX6_findPair 52 = .ok (.iconst (-1), 1) := by decide +kernel
theorem dX6_findPair_53 : decode cX6_findPair 53 = .ok (.ireturn, 1) := by decide +kernel
set_option maxRecDepth 100000 in
theorem t_X6_findPair_2 (G : MG) (hG : (g_l G).stackTraces = false) (d : Nat) (hd : 1 ≤ d)   (σ : MsSt)  : ∀ (n : Nat) (l0 : Nat) (l1 : Int32) (l2 : Int32) (l3 : Int32) (h0 : ms_kd l0 = 7), TrO G mX6_findPair d 0 0 0 0 (ms_ki σ) 2 [(0, .ref l0), (1, .int l1), (2, .int l2), (3, .int l3)] [] σ (f_X6_findPair_2 σ n l0 l1 l2 l3) := by
  intro n
  induction n with
  | zero => exact fun _ _ _ _ _ => tr_none
  | succ n ih =>
    intro l0 l1 l2 l3 h0
    show TrO G mX6_findPair d 0 0 0 0 (ms_ki σ) 2 [(0, .ref l0), (1, .int l1), (2, .int l2), (3, .int l3)] [] σ (if l3 < (ms_i σ l0 4) then (f_X6_told σ l0 l3).bind fun v1 => if (ms_i σ v1 1) = 2 then if (ms_i σ v1 11) = l1 then if (ms_i σ v1 12) = l2 then some l3 else (f_X6_findPair_2 σ n) l0 l1 l2 (l3 + 1) else (f_X6_findPair_2 σ n) l0 l1 l2 (l3 + 1) else (f_X6_findPair_2 σ n) l0 l1 l2 (l3 + 1) else some (-1))
    refine tr_iload_n (i := 3) dX6_findPair_2 rfl ?_
    refine tr_aload_n (i := 0) dX6_findPair_3 rfl ?_
    refine tr_getI 6 h0 fl_X6_35 (by decide +kernel) dX6_findPair_4 ?_
    refine tr_icge (o := none) (tgt := 52) dX6_findPair_7 (by decide) ?_ ?_
    · refine tr_iconst (v := (-1)) dX6_findPair_52 (by decide +kernel) ?_
      exact tr_iret rfl rfl (by decide) (by decide) dX6_findPair_53
    · refine tr_aload_n (i := 0) dX6_findPair_10 rfl ?_
      refine tr_iload_n (i := 3) dX6_findPair_11 rfl ?_
      refine tr_c_a (ms_cV (rest := []) (al := [.int l3]) 6 (sp_X6_told G hG (d - 1) (by omega) σ l0 l3 h0) h0 (by decide +kernel) kl_X6_52 fv_X6_told dX6_findPair_12 (show _ = some 1 by decide +kernel) (by omega) (Nat.le_of_ble_eq_true rfl) (by decide) (by decide)) (fun v1 e_v1 => ?_)
      refine tr_astore (lv' := [(0, .ref l0), (1, .int l1), (2, .int l2), (3, .int l3), (4, .ref v1)]) [1, 2, 3, 4, 0] dX6_findPair_15 (by decide) rfl ?_
      refine tr_aload (i := 4) dX6_findPair_17 rfl ?_
      refine tr_getI 7 (ra_X6_told h0 e_v1) fl_X6_56 (by decide +kernel) dX6_findPair_19 ?_
      refine tr_iconst (v := 2) dX6_findPair_22 (by decide +kernel) ?_
      refine tr_icne (o := none) (tgt := 46) dX6_findPair_23 (by decide) ?_ ?_
      · refine tr_iinc (k := 3) (v := (l3 + 1)) (lv' := [(0, .ref l0), (1, .int l1), (2, .int l2), (3, .int (l3 + 1))]) [1, 2, 3, 0] dX6_findPair_46 rfl rfl (by decide) rfl ?_
        refine tr_goto (tgt := 2) dX6_findPair_49 (by decide) ?_
        exact (fun y0 y1 y2 y3 g0 => ih y0 y1 y2 y3 g0) l0 l1 l2 (l3 + 1) h0
      · refine tr_aload (i := 4) dX6_findPair_26 rfl ?_
        refine tr_getI 7 (ra_X6_told h0 e_v1) fl_X6_83 (by decide +kernel) dX6_findPair_28 ?_
        refine tr_iload_n (i := 1) dX6_findPair_31 rfl ?_
        refine tr_icne (o := none) (tgt := 46) dX6_findPair_32 (by decide) ?_ ?_
        · refine tr_iinc (k := 3) (v := (l3 + 1)) (lv' := [(0, .ref l0), (1, .int l1), (2, .int l2), (3, .int (l3 + 1))]) [1, 2, 3, 0] dX6_findPair_46 rfl rfl (by decide) rfl ?_
          refine tr_goto (tgt := 2) dX6_findPair_49 (by decide) ?_
          exact (fun y0 y1 y2 y3 g0 => ih y0 y1 y2 y3 g0) l0 l1 l2 (l3 + 1) h0
        · refine tr_aload (i := 4) dX6_findPair_35 rfl ?_
          refine tr_getI 7 (ra_X6_told h0 e_v1) fl_X6_86 (by decide +kernel) dX6_findPair_37 ?_
          refine tr_iload_n (i := 2) dX6_findPair_40 rfl ?_
          refine tr_icne (o := none) (tgt := 46) dX6_findPair_41 (by decide) ?_ ?_
          · refine tr_iinc (k := 3) (v := (l3 + 1)) (lv' := [(0, .ref l0), (1, .int l1), (2, .int l2), (3, .int (l3 + 1))]) [1, 2, 3, 0] dX6_findPair_46 rfl rfl (by decide) rfl ?_
            refine tr_goto (tgt := 2) dX6_findPair_49 (by decide) ?_
            exact (fun y0 y1 y2 y3 g0 => ih y0 y1 y2 y3 g0) l0 l1 l2 (l3 + 1) h0
          · refine tr_iload_n (i := 3) dX6_findPair_44 rfl ?_
            exact tr_iret rfl rfl (by decide) (by decide) dX6_findPair_45
set_option maxRecDepth 100000 in
theorem sp_X6_findPair (G : MG) (hG : (g_l G).stackTraces = false) (d : Nat) (hd : 1 ≤ d)   (σ : MsSt) (l0 : Nat) (l1 : Int32) (l2 : Int32) (h0 : ms_kd l0 = 7) : MsSpec G mX6_findPair d 0 0 [.ref l0, .int l1, .int l2] σ (ms_ki σ) (f_X6_findPair σ l0 l1 l2) := by
  refine ms_start (by decide +kernel) rfl rfl (Nat.le_of_ble_eq_true rfl) ?_
  show TrO G mX6_findPair d 0 0 0 0 (ms_ki σ) 0 [(0, .ref l0), (1, .int l1), (2, .int l2)] [] σ (f_X6_findPair_2 σ ms_fuel l0 l1 l2 0)
  refine tr_iconst (v := 0) dX6_findPair_0 (by decide +kernel) ?_
  refine tr_istore_n (lv' := [(0, .ref l0), (1, .int l1), (2, .int l2), (3, .int 0)]) [1, 2, 3, 0] dX6_findPair_1 (by decide) rfl ?_
  exact t_X6_findPair_2 G hG d hd σ ms_fuel l0 l1 l2 0 h0
theorem dX6_findMade_0 : decode cX6_findMade 0 = .ok (.aload_n 0, 1) := by decide +kernel
theorem dX6_findMade_1 : decode cX6_findMade 1 = .ok (.iload_n 1, 1) := by decide +kernel
theorem dX6_findMade_2 : decode cX6_findMade 2 = .ok (.iload_n 2, 1) := by decide +kernel
theorem dX6_findMade_3 : decode cX6_findMade 3 = .ok (.invokevirtual 89, 3) := by decide +kernel
theorem dX6_findMade_6 : decode cX6_findMade 6 = .ok (.istore 4, 2) := by decide +kernel
theorem dX6_findMade_8 : decode cX6_findMade 8 = .ok (.iload 4, 2) := by decide +kernel
theorem dX6_findMade_10 : decode cX6_findMade 10 = .ok (.iconst (-1), 1) := by decide +kernel
theorem dX6_findMade_11 : decode cX6_findMade 11 = .ok (.if_icmp .eq 25, 3) := by decide +kernel
theorem dX6_findMade_14 : decode cX6_findMade 14 = .ok (.aload_n 0, 1) := by decide +kernel
theorem dX6_findMade_15 : decode cX6_findMade 15 = .ok (.iload 4, 2) := by decide +kernel
theorem dX6_findMade_17 : decode cX6_findMade 17 = .ok (.invokevirtual 52, 3) := by decide +kernel
theorem dX6_findMade_20 : decode cX6_findMade 20 = .ok (.getfield 65, 3) := by decide +kernel
theorem dX6_findMade_23 : decode cX6_findMade 23 = .ok (.ifCond .eq 13, 3) := by decide +kernel
theorem dX6_findMade_26 : decode cX6_findMade 26 = .ok (.iload 4, 2) := by decide +kernel
theorem dX6_findMade_28 : decode cX6_findMade 28 = .ok (.iload_n 3, 1) := by decide +kernel
theorem dX6_findMade_29 : decode cX6_findMade 29 = .ok (.if_icmp .eq 7, 3) := by decide +kernel
theorem dX6_findMade_32 : decode cX6_findMade 32 = .ok (.iconst (-1), 1) := by decide +kernel
theorem dX6_findMade_33 : decode cX6_findMade 33 = .ok (.goto 5, 3) := by decide +kernel
theorem dX6_findMade_36 : decode cX6_findMade 36 = .ok (.iload 4, 2) := by decide +kernel
theorem dX6_findMade_38 : decode cX6_findMade 38 = .ok (.ireturn, 1) := by decide +kernel
set_option maxRecDepth 100000 in
theorem sp_X6_findMade (G : MG) (hG : (g_l G).stackTraces = false) (d : Nat) (hd : 2 ≤ d)   (σ : MsSt) (l0 : Nat) (l1 : Int32) (l2 : Int32) (l3 : Int32) (h0 : ms_kd l0 = 7) : MsSpec G mX6_findMade d 0 0 [.ref l0, .int l1, .int l2, .int l3] σ (ms_ki σ) (f_X6_findMade σ l0 l1 l2 l3) := by
  refine ms_start (by decide +kernel) rfl rfl (Nat.le_of_ble_eq_true rfl) ?_
  show TrO G mX6_findMade d 0 0 0 0 (ms_ki σ) 0 [(0, .ref l0), (1, .int l1), (2, .int l2), (3, .int l3)] [] σ ((f_X6_findPair σ l0 l1 l2).bind fun v1 => if v1 = (-1) then some v1 else (f_X6_told σ l0 v1).bind fun v2 => if (ms_i σ v2 13) = 0 then some v1 else if v1 = l3 then some v1 else some (-1))
  refine tr_aload_n (i := 0) dX6_findMade_0 rfl ?_
  refine tr_iload_n (i := 1) dX6_findMade_1 rfl ?_
  refine tr_iload_n (i := 2) dX6_findMade_2 rfl ?_
  refine tr_c_i (ms_cV (rest := []) (al := [.int l1, .int l2]) 6 (sp_X6_findPair G hG (d - 1) (by omega) σ l0 l1 l2 h0) h0 (by decide +kernel) kl_X6_89 fv_X6_findPair dX6_findMade_3 (show _ = some 2 by decide +kernel) (by omega) (Nat.le_of_ble_eq_true rfl) (by decide) (by decide)) (fun v1 => ?_)
  refine tr_istore (lv' := [(0, .ref l0), (3, .int l3), (4, .int v1)]) [1, 4, 0] dX6_findMade_6 (by decide) rfl ?_
  refine tr_iload (i := 2) dX6_findMade_8 rfl ?_
  refine tr_iconst (v := (-1)) dX6_findMade_10 (by decide +kernel) ?_
  refine tr_iceq (o := none) (tgt := 36) dX6_findMade_11 (by decide) ?_ ?_
  · refine tr_iload (i := 2) dX6_findMade_36 rfl ?_
    exact tr_iret rfl rfl (by decide) (by decide) dX6_findMade_38
  · refine tr_aload_n (i := 0) dX6_findMade_14 rfl ?_
    refine tr_iload (i := 2) dX6_findMade_15 rfl ?_
    refine tr_c_a (ms_cV (rest := []) (al := [.int v1]) 6 (sp_X6_told G hG (d - 1) (by omega) σ l0 v1 h0) h0 (by decide +kernel) kl_X6_52 fv_X6_told dX6_findMade_17 (show _ = some 1 by decide +kernel) (by omega) (Nat.le_of_ble_eq_true rfl) (by decide) (by decide)) (fun v2 e_v2 => ?_)
    refine tr_getI 7 (ra_X6_told h0 e_v2) fl_X6_65 (by decide +kernel) dX6_findMade_20 ?_
    refine tr_ifeq (o := none) (tgt := 36) dX6_findMade_23 (by decide) ?_ ?_
    · refine tr_iload (i := 2) dX6_findMade_36 rfl ?_
      exact tr_iret rfl rfl (by decide) (by decide) dX6_findMade_38
    · refine tr_iload (i := 2) dX6_findMade_26 rfl ?_
      refine tr_iload_n (i := 1) dX6_findMade_28 rfl ?_
      refine tr_iceq (o := none) (tgt := 36) dX6_findMade_29 (by decide) ?_ ?_
      · refine tr_iload (i := 2) dX6_findMade_36 rfl ?_
        exact tr_iret rfl rfl (by decide) (by decide) dX6_findMade_38
      · refine tr_iconst (v := (-1)) dX6_findMade_32 (by decide +kernel) ?_
        refine tr_goto (tgt := 38) dX6_findMade_33 (by decide) ?_
        exact tr_iret rfl rfl (by decide) (by decide) dX6_findMade_38
theorem dX6_lineAt_0 : decode cX6_lineAt 0 = .ok (.iload_n 1, 1) := by decide +kernel
theorem dX6_lineAt_1 : decode cX6_lineAt 1 = .ok (.ifCond .lt 21, 3) := by decide +kernel
theorem dX6_lineAt_4 : decode cX6_lineAt 4 = .ok (.iload_n 1, 1) := by decide +kernel
theorem dX6_lineAt_5 : decode cX6_lineAt 5 = .ok (.aload_n 0, 1) := by decide +kernel
theorem dX6_lineAt_6 : decode cX6_lineAt 6 = .ok (.getfield 20, 3) := by decide +kernel
theorem dX6_lineAt_9 : decode cX6_lineAt 9 = .ok (.arraylength, 1) := by decide +kernel
theorem dX6_lineAt_10 : decode cX6_lineAt 10 = .ok (.if_icmp .ge 12, 3) := by decide +kernel
theorem dX6_lineAt_13 : decode cX6_lineAt 13 = .ok (.aload_n 0, 1) := by decide +kernel
theorem dX6_lineAt_14 : decode cX6_lineAt 14 = .ok (.getfield 20, 3) := by decide +kernel
theorem dX6_lineAt_17 : decode cX6_lineAt 17 = .ok (.iload_n 1, 1) := by decide +kernel
theorem dX6_lineAt_18 : decode cX6_lineAt 18 = .ok (.aaload, 1) := by decide +kernel
theorem dX6_lineAt_19 : decode cX6_lineAt 19 = .ok (.goto 4, 3) := by decide +kernel
theorem dX6_lineAt_22 : decode cX6_lineAt 22 = .ok (.aconst_null, 1) := by decide +kernel
theorem dX6_lineAt_23 : decode cX6_lineAt 23 = .ok (.astore_n 2, 1) := by decide +kernel
theorem dX6_lineAt_24 : decode cX6_lineAt 24 = .ok (.aload_n 2, 1) := by decide +kernel
theorem dX6_lineAt_25 : decode cX6_lineAt 25 = .ok (.ifnonnull 10, 3) := by decide +kernel
theorem dX6_lineAt_28 : decode cX6_lineAt 28 = .ok (.aload_n 0, 1) := by decide +kernel
theorem dX6_lineAt_29 : decode cX6_lineAt 29 = .ok (.getfield 31, 3) := by decide +kernel
theorem dX6_lineAt_32 : decode cX6_lineAt 32 = .ok (.goto 4, 3) := by decide +kernel
theorem dX6_lineAt_35 : decode cX6_lineAt 35 = .ok (.aload_n 2, 1) := by decide +kernel
theorem dX6_lineAt_36 : decode cX6_lineAt 36 = .ok (.areturn, 1) := by decide +kernel
set_option maxRecDepth 100000 in
theorem sp_X6_lineAt (G : MG) (hG : (g_l G).stackTraces = false) (d : Nat) (hd : 0 ≤ d)   (σ : MsSt) (l0 : Nat) (l1 : Int32) (h0 : ms_kd l0 = 7) : MsSpec G mX6_lineAt d 0 0 [.ref l0, .int l1] σ (ms_ka σ) (f_X6_lineAt σ l0 l1) := by
  refine ms_start (by decide +kernel) rfl rfl (Nat.le_of_ble_eq_true rfl) ?_
  show TrO G mX6_lineAt d 0 0 0 0 (ms_ka σ) 0 [(0, .ref l0), (1, .int l1)] [] σ (if l1 < 0 then some (ms_rf l0 3) else if l1 < (Int32.ofNat (ms_ln (ms_rf l0 1))) then (ms_ala (ms_rf l0 1) l1).bind fun v1 => some v1 else some (ms_rf l0 3))
  refine tr_iload_n (i := 1) dX6_lineAt_0 rfl ?_
  refine tr_iflt (o := none) (tgt := 22) dX6_lineAt_1 (by decide) ?_ ?_
  · refine tr_null dX6_lineAt_22 ?_
    refine tr_astore_nN (lv' := [(0, .ref l0), (2, .null)]) [1, 0] dX6_lineAt_23 (by decide) rfl ?_
    refine tr_aload_nN (i := 1) dX6_lineAt_24 rfl ?_
    refine tr_ifnonnullN dX6_lineAt_25 ?_
    refine tr_aload_n (i := 0) dX6_lineAt_28 rfl ?_
    refine tr_getR 6 h0 fl_X6_31 (by decide +kernel) dX6_lineAt_29 ?_
    refine tr_goto (tgt := 36) dX6_lineAt_32 (by decide) ?_
    exact tr_aret rfl rfl (by decide) (by decide) dX6_lineAt_36
  · refine tr_iload_n (i := 1) dX6_lineAt_4 rfl ?_
    refine tr_aload_n (i := 0) dX6_lineAt_5 rfl ?_
    refine tr_getR 6 h0 fl_X6_20 (by decide +kernel) dX6_lineAt_6 ?_
    refine tr_len 5 (rk_6_1 h0) (by decide) dX6_lineAt_9 ?_
    refine tr_icge (o := none) (tgt := 22) dX6_lineAt_10 (by decide) ?_ ?_
    · refine tr_null dX6_lineAt_22 ?_
      refine tr_astore_nN (lv' := [(0, .ref l0), (2, .null)]) [1, 0] dX6_lineAt_23 (by decide) rfl ?_
      refine tr_aload_nN (i := 1) dX6_lineAt_24 rfl ?_
      refine tr_ifnonnullN dX6_lineAt_25 ?_
      refine tr_aload_n (i := 0) dX6_lineAt_28 rfl ?_
      refine tr_getR 6 h0 fl_X6_31 (by decide +kernel) dX6_lineAt_29 ?_
      refine tr_goto (tgt := 36) dX6_lineAt_32 (by decide) ?_
      exact tr_aret rfl rfl (by decide) (by decide) dX6_lineAt_36
    · refine tr_aload_n (i := 0) dX6_lineAt_13 rfl ?_
      refine tr_getR 6 h0 fl_X6_20 (by decide +kernel) dX6_lineAt_14 ?_
      refine tr_iload_n (i := 1) dX6_lineAt_17 rfl ?_
      refine tr_ala 5 (rk_6_1 h0) (by decide) (by decide) dX6_lineAt_18 (fun v1 e_v1 => ?_)
      refine tr_goto (tgt := 23) dX6_lineAt_19 (by decide) ?_
      refine tr_astore_n (lv' := [(0, .ref l0), (2, .ref v1)]) [1, 0] dX6_lineAt_23 (by decide) rfl ?_
      refine tr_aload_n (i := 1) dX6_lineAt_24 rfl ?_
      refine tr_ifnonnull (tgt := 35) dX6_lineAt_25 (by decide) ?_
      refine tr_aload_n (i := 1) dX6_lineAt_35 rfl ?_
      exact tr_aret rfl rfl (by decide) (by decide) dX6_lineAt_36
theorem dX6_clusterAt_0 : decode cX6_clusterAt 0 = .ok (.iconst 0, 1) := by decide +kernel
theorem dX6_clusterAt_1 : decode cX6_clusterAt 1 = .ok (.istore_n 3, 1) := by decide +kernel
theorem dX6_clusterAt_2 : decode cX6_clusterAt 2 = .ok (.iconst 0, 1) := by decide +kernel
theorem dX6_clusterAt_3 : decode cX6_clusterAt 3 = .ok (.istore 4, 2) := by decide +kernel
theorem dX6_clusterAt_5 : decode cX6_clusterAt 5 = .ok (.iload 4, 2) := by decide +kernel
theorem dX6_clusterAt_7 : decode cX6_clusterAt 7 = .ok (.iload_n 2, 1) := by decide +kernel
theorem dX6_clusterAt_8 : decode cX6_clusterAt 8 = .ok (.if_icmp .gt 40, 3) := by decide +kernel
theorem dX6_clusterAt_11 : decode cX6_clusterAt 11 = .ok (.iload 4, 2) := by decide +kernel
theorem dX6_clusterAt_13 : decode cX6_clusterAt 13 = .ok (.aload_n 1, 1) := by decide +kernel
theorem dX6_clusterAt_14 : decode cX6_clusterAt 14 = .ok (.getfield 102, 3) := by decide +kernel
theorem dX6_clusterAt_17 : decode cX6_clusterAt 17 = .ok (.if_icmp .ge 31, 3) := by decide +kernel
theorem dX6_clusterAt_20 : decode cX6_clusterAt 20 = .ok (.iload 4, 2) := by decide +kernel
theorem dX6_clusterAt_22 : decode cX6_clusterAt 22 = .ok (.ifCond .eq 17, 3) := by decide +kernel
theorem dX6_clusterAt_25 : decode cX6_clusterAt 25 = .ok (.aload_n 0, 1) := by decide +kernel
theorem dX6_clusterAt_26 : decode cX6_clusterAt 26 = .ok (.aload_n 1, 1) := by decide +kernel
theorem dX6_clusterAt_27 : decode cX6_clusterAt 27 = .ok (.iload 4, 2) := by decide +kernel
theorem dX6_clusterAt_29 : decode cX6_clusterAt 29 = .ok (.invokevirtual 105, 3) := by decide +kernel
theorem dX6_clusterAt_32 : decode cX6_clusterAt 32 = .ok (.invokevirtual 69, 3) := by decide +kernel
theorem dX6_clusterAt_35 : decode cX6_clusterAt 35 = .ok (.iconst 1, 1) := by decide +kernel
theorem dX6_clusterAt_36 : decode cX6_clusterAt 36 = .ok (.if_icmp .eq 6, 3) := by decide +kernel
theorem dX6_clusterAt_39 : decode cX6_clusterAt 39 = .ok (.iinc 3 1, 3) := by decide +kernel
theorem dX6_clusterAt_42 : decode cX6_clusterAt 42 = .ok (.iinc 4 1, 3) := by decide +kernel
theorem dX6_clusterAt_45 : decode cX6_clusterAt 45 = .ok (.goto (-40), 3) := by decide +kernel
theorem dX6_clusterAt_48 : decode cX6_clusterAt 48 = .ok (.iload_n 3, 1) := by decide +kernel
theorem dX6_clusterAt_49 : decode cX6_clusterAt 49 = .ok (.iconst 1, 1) := by decide +kernel
theorem dX6_clusterAt_50 : decode cX6_clusterAt 50 = .ok (.isub, 1) := by decide +kernel
theorem dX6_clusterAt_51 : decode cX6_clusterAt 51 = .ok (.ireturn, 1) := by decide +kernel
set_option maxRecDepth 100000 in
theorem t_X6_clusterAt_5 (G : MG) (hG : (g_l G).stackTraces = false) (d : Nat) (hd : 2 ≤ d)   (σ : MsSt)  : ∀ (n : Nat) (l0 : Nat) (l1 : Nat) (l2 : Int32) (l3 : Int32) (l4 : Int32) (h0 : ms_kd l0 = 7) (h1 : ms_kd l1 = 6), TrO G mX6_clusterAt d 0 0 0 0 (ms_ki σ) 5 [(0, .ref l0), (1, .ref l1), (2, .int l2), (3, .int l3), (4, .int l4)] [] σ (f_X6_clusterAt_5 σ n l0 l1 l2 l3 l4) := by
  intro n
  induction n with
  | zero => exact fun _ _ _ _ _ _ _ => tr_none
  | succ n ih =>
    intro l0 l1 l2 l3 l4 h0 h1
    show TrO G mX6_clusterAt d 0 0 0 0 (ms_ki σ) 5 [(0, .ref l0), (1, .ref l1), (2, .int l2), (3, .int l3), (4, .int l4)] [] σ (if l2 < l4 then some (l3 - 1) else if l4 < (ms_i σ l1 1) then if l4 = 0 then (f_X6_clusterAt_5 σ n) l0 l1 l2 (l3 + 1) (l4 + 1) else (f_X5_get σ l1 l4).bind fun v1 => (f_X6_kindOf σ l0 v1).bind fun v2 => if v2 = 1 then (f_X6_clusterAt_5 σ n) l0 l1 l2 l3 (l4 + 1) else (f_X6_clusterAt_5 σ n) l0 l1 l2 (l3 + 1) (l4 + 1) else some (l3 - 1))
    refine tr_iload (i := 4) dX6_clusterAt_5 rfl ?_
    refine tr_iload_n (i := 2) dX6_clusterAt_7 rfl ?_
    refine tr_icgt (o := none) (tgt := 48) dX6_clusterAt_8 (by decide) ?_ ?_
    · refine tr_iload_n (i := 3) dX6_clusterAt_48 rfl ?_
      refine tr_iconst (v := 1) dX6_clusterAt_49 (by decide +kernel) ?_
      refine tr_isub dX6_clusterAt_50 ?_
      exact tr_iret rfl rfl (by decide) (by decide) dX6_clusterAt_51
    · refine tr_iload (i := 4) dX6_clusterAt_11 rfl ?_
      refine tr_aload_n (i := 1) dX6_clusterAt_13 rfl ?_
      refine tr_getI 5 h1 fl_X6_102 (by decide +kernel) dX6_clusterAt_14 ?_
      refine tr_icge (o := none) (tgt := 48) dX6_clusterAt_17 (by decide) ?_ ?_
      · refine tr_iload_n (i := 3) dX6_clusterAt_48 rfl ?_
        refine tr_iconst (v := 1) dX6_clusterAt_49 (by decide +kernel) ?_
        refine tr_isub dX6_clusterAt_50 ?_
        exact tr_iret rfl rfl (by decide) (by decide) dX6_clusterAt_51
      · refine tr_iload (i := 4) dX6_clusterAt_20 rfl ?_
        refine tr_ifeq (o := none) (tgt := 39) dX6_clusterAt_22 (by decide) ?_ ?_
        · refine tr_iinc (k := 3) (v := (l3 + 1)) (lv' := [(0, .ref l0), (1, .ref l1), (2, .int l2), (3, .int (l3 + 1)), (4, .int l4)]) [1, 2, 3, 0, 4] dX6_clusterAt_39 rfl rfl (by decide) rfl ?_
          refine tr_iinc (k := 4) (v := (l4 + 1)) (lv' := [(0, .ref l0), (1, .ref l1), (2, .int l2), (3, .int (l3 + 1)), (4, .int (l4 + 1))]) [1, 2, 3, 4, 0] dX6_clusterAt_42 rfl rfl (by decide) rfl ?_
          refine tr_goto (tgt := 5) dX6_clusterAt_45 (by decide) ?_
          exact (fun y0 y1 y2 y3 y4 g0 g1 => ih y0 y1 y2 y3 y4 g0 g1) l0 l1 l2 (l3 + 1) (l4 + 1) h0 h1
        · refine tr_aload_n (i := 0) dX6_clusterAt_25 rfl ?_
          refine tr_aload_n (i := 1) dX6_clusterAt_26 rfl ?_
          refine tr_iload (i := 4) dX6_clusterAt_27 rfl ?_
          refine tr_c_i (ms_cV (rest := [.ref l0]) (al := [.int l4]) 5 (sp_X5_get G hG (d - 1) (by omega) σ l1 l4 h1) h1 (by decide +kernel) kl_X6_105 fv_X5_get dX6_clusterAt_29 (show _ = some 1 by decide +kernel) (by omega) (Nat.le_of_ble_eq_true rfl) (by decide) (by decide)) (fun v1 => ?_)
          refine tr_c_i (ms_cV (rest := []) (al := [.int v1]) 6 (sp_X6_kindOf G hG (d - 1) (by omega) σ l0 v1 h0) h0 (by decide +kernel) kl_X6_69 fv_X6_kindOf dX6_clusterAt_32 (show _ = some 1 by decide +kernel) (by omega) (Nat.le_of_ble_eq_true rfl) (by decide) (by decide)) (fun v2 => ?_)
          refine tr_iconst (v := 1) dX6_clusterAt_35 (by decide +kernel) ?_
          refine tr_iceq (o := none) (tgt := 42) dX6_clusterAt_36 (by decide) ?_ ?_
          · refine tr_iinc (k := 4) (v := (l4 + 1)) (lv' := [(0, .ref l0), (1, .ref l1), (2, .int l2), (3, .int l3), (4, .int (l4 + 1))]) [1, 2, 3, 4, 0] dX6_clusterAt_42 rfl rfl (by decide) rfl ?_
            refine tr_goto (tgt := 5) dX6_clusterAt_45 (by decide) ?_
            exact (fun y0 y1 y2 y3 y4 g0 g1 => ih y0 y1 y2 y3 y4 g0 g1) l0 l1 l2 l3 (l4 + 1) h0 h1
          · refine tr_iinc (k := 3) (v := (l3 + 1)) (lv' := [(0, .ref l0), (1, .ref l1), (2, .int l2), (3, .int (l3 + 1)), (4, .int l4)]) [1, 2, 3, 0, 4] dX6_clusterAt_39 rfl rfl (by decide) rfl ?_
            refine tr_iinc (k := 4) (v := (l4 + 1)) (lv' := [(0, .ref l0), (1, .ref l1), (2, .int l2), (3, .int (l3 + 1)), (4, .int (l4 + 1))]) [1, 2, 3, 4, 0] dX6_clusterAt_42 rfl rfl (by decide) rfl ?_
            refine tr_goto (tgt := 5) dX6_clusterAt_45 (by decide) ?_
            exact (fun y0 y1 y2 y3 y4 g0 g1 => ih y0 y1 y2 y3 y4 g0 g1) l0 l1 l2 (l3 + 1) (l4 + 1) h0 h1
set_option maxRecDepth 100000 in
theorem sp_X6_clusterAt (G : MG) (hG : (g_l G).stackTraces = false) (d : Nat) (hd : 2 ≤ d)   (σ : MsSt) (l0 : Nat) (l1 : Nat) (l2 : Int32) (h0 : ms_kd l0 = 7) (h1 : ms_kd l1 = 6) : MsSpec G mX6_clusterAt d 0 0 [.ref l0, .ref l1, .int l2] σ (ms_ki σ) (f_X6_clusterAt σ l0 l1 l2) := by
  refine ms_start (by decide +kernel) rfl rfl (Nat.le_of_ble_eq_true rfl) ?_
  show TrO G mX6_clusterAt d 0 0 0 0 (ms_ki σ) 0 [(0, .ref l0), (1, .ref l1), (2, .int l2)] [] σ (f_X6_clusterAt_5 σ ms_fuel l0 l1 l2 0 0)
  refine tr_iconst (v := 0) dX6_clusterAt_0 (by decide +kernel) ?_
  refine tr_istore_n (lv' := [(0, .ref l0), (1, .ref l1), (2, .int l2), (3, .int 0)]) [1, 2, 3, 0] dX6_clusterAt_1 (by decide) rfl ?_
  refine tr_iconst (v := 0) dX6_clusterAt_2 (by decide +kernel) ?_
  refine tr_istore (lv' := [(0, .ref l0), (1, .ref l1), (2, .int l2), (3, .int 0), (4, .int 0)]) [1, 2, 3, 4, 0] dX6_clusterAt_3 (by decide) rfl ?_
  exact t_X6_clusterAt_5 G hG d hd σ ms_fuel l0 l1 l2 0 0 h0 h1
theorem dX6_empty_0 : decode cX6_empty 0 = .ok (.iconst 0, 1) := by decide +kernel
theorem dX6_empty_1 : decode cX6_empty 1 = .ok (.istore_n 1, 1) := by decide +kernel
theorem dX6_empty_2 : decode cX6_empty 2 = .ok (.iload_n 1, 1) := by decide +kernel
theorem dX6_empty_3 : decode cX6_empty 3 = .ok (.aload_n 0, 1) := by decide +kernel
theorem dX6_empty_4 : decode cX6_empty 4 = .ok (.getfield 20, 3) := by decide +kernel
theorem dX6_empty_7 : decode cX6_empty 7 = .ok (.arraylength, 1) := by decide +kernel
theorem dX6_empty_8 : decode cX6_empty 8 = .ok (.if_icmp .ge 17, 3) := by decide +kernel
theorem dX6_empty_11 : decode cX6_empty 11 = .ok (.aload_n 0, 1) := by decide +kernel
theorem dX6_empty_12 : decode cX6_empty 12 = .ok (.iload_n 1, 1) := by decide +kernel
theorem dX6_empty_13 : decode cX6_empty 13 = .ok (.invokevirtual 45, 3) := by decide +kernel
theorem dX6_empty_16 : decode cX6_empty 16 = .ok (.invokevirtual 49, 3) := by decide +kernel
theorem dX6_empty_19 : decode cX6_empty 19 = .ok (.iinc 1 1, 3) := by decide +kernel
theorem dX6_empty_22 : decode cX6_empty 22 = .ok (.goto (-20), 3) := by decide +kernel
theorem dX6_empty_25 : decode cX6_empty 25 = .ok (.aload_n 0, 1) := by decide +kernel
theorem dX6_empty_26 : decode cX6_empty 26 = .ok (.iconst 0, 1) := by decide +kernel
theorem dX6_empty_27 : decode cX6_empty 27 = .ok (.putfield 35, 3) := by decide +kernel
theorem dX6_empty_30 : decode cX6_empty 30 = .ok (.aload_n 0, 1) := by decide +kernel
theorem dX6_empty_31 : decode cX6_empty 31 = .ok (.iconst 0, 1) := by decide +kernel
theorem dX6_empty_32 : decode cX6_empty 32 = .ok (.putfield 39, 3) := by decide +kernel
theorem dX6_empty_35 : decode cX6_empty 35 = .ok (.aload_n 0, 1) := by decide +kernel
theorem dX6_empty_36 : decode cX6_empty 36 = .ok (.iconst 0, 1) := by decide +kernel
theorem dX6_empty_37 : decode cX6_empty 37 = .ok (.putfield 42, 3) := by decide +kernel
theorem dX6_empty_40 : decode cX6_empty 40 = .ok (.return_, 1) := by decide +kernel
set_option maxRecDepth 100000 in
theorem t_X6_empty_2 (G : MG) (hG : (g_l G).stackTraces = false) (d : Nat) (hd : 1 ≤ d)    : ∀ (n : Nat) (σ : MsSt) (l0 : Nat) (l1 : Int32) (h0 : ms_kd l0 = 7), TrO G mX6_empty d 0 0 0 0 ms_wv 2 [(0, .ref l0), (1, .int l1)] [] σ (f_X6_empty_2 n σ l0 l1) := by
  intro n
  induction n with
  | zero => exact fun _ _ _ _ => tr_none
  | succ n ih =>
    intro σ l0 l1 h0
    show TrO G mX6_empty d 0 0 0 0 ms_wv 2 [(0, .ref l0), (1, .int l1)] [] σ (if l1 < (Int32.ofNat (ms_ln (ms_rf l0 1))) then (f_X6_lineAt σ l0 l1).bind fun v4 => (f_X5_clear σ v4).bind fun s5 => (f_X6_empty_2 n) s5 l0 (l1 + 1) else ms_nm (ms_si σ l0 4 0) fun s1 => ms_nm (ms_si s1 l0 5 0) fun s2 => ms_nm (ms_si s2 l0 6 0) fun s3 => some s3)
    refine tr_iload_n (i := 1) dX6_empty_2 rfl ?_
    refine tr_aload_n (i := 0) dX6_empty_3 rfl ?_
    refine tr_getR 6 h0 fl_X6_20 (by decide +kernel) dX6_empty_4 ?_
    refine tr_len 5 (rk_6_1 h0) (by decide) dX6_empty_7 ?_
    refine tr_icge (o := none) (tgt := 25) dX6_empty_8 (by decide) ?_ ?_
    · refine tr_aload_n (i := 0) dX6_empty_25 rfl ?_
      refine tr_iconst (v := 0) dX6_empty_26 (by decide +kernel) ?_
      refine tr_putI 6 h0 fl_X6_35 (by decide +kernel) dX6_empty_27 ?_
      refine ms_ltS (fun s1 => ?_)
      refine tr_aload_n (i := 0) dX6_empty_30 rfl ?_
      refine tr_iconst (v := 0) dX6_empty_31 (by decide +kernel) ?_
      refine tr_putI 6 h0 fl_X6_39 (by decide +kernel) dX6_empty_32 ?_
      refine ms_ltS (fun s2 => ?_)
      refine tr_aload_n (i := 0) dX6_empty_35 rfl ?_
      refine tr_iconst (v := 0) dX6_empty_36 (by decide +kernel) ?_
      refine tr_putI 6 h0 fl_X6_42 (by decide +kernel) dX6_empty_37 ?_
      refine ms_ltS (fun s3 => ?_)
      exact tr_vret rfl rfl (by decide) (by decide) dX6_empty_40
    · refine tr_aload_n (i := 0) dX6_empty_11 rfl ?_
      refine tr_iload_n (i := 1) dX6_empty_12 rfl ?_
      refine tr_c_a (ms_cV (rest := []) (al := [.int l1]) 6 (sp_X6_lineAt G hG (d - 1) (by omega) σ l0 l1 h0) h0 (by decide +kernel) kl_X6_45 fv_X6_lineAt dX6_empty_13 (show _ = some 1 by decide +kernel) (by omega) (Nat.le_of_ble_eq_true rfl) (by decide) (by decide)) (fun v4 e_v4 => ?_)
      refine tr_c_wv (ms_cV (rest := []) (al := []) 5 (sp_X5_clear G hG (d - 1) (by omega) σ v4 (ra_X6_lineAt h0 e_v4)) (ra_X6_lineAt h0 e_v4) (by decide +kernel) kl_X6_49 fv_X5_clear dX6_empty_16 (show _ = some 0 by decide +kernel) (by omega) (Nat.le_of_ble_eq_true rfl) (by decide) (by decide)) (fun s5 => ?_)
      refine tr_iinc (k := 1) (v := (l1 + 1)) (lv' := [(0, .ref l0), (1, .int (l1 + 1))]) [1, 0] dX6_empty_19 rfl rfl (by decide) rfl ?_
      refine tr_goto (tgt := 2) dX6_empty_22 (by decide) ?_
      exact (fun s y0 y1 g0 => ih s y0 y1 g0) s5 l0 (l1 + 1) h0
set_option maxRecDepth 100000 in
theorem sp_X6_empty (G : MG) (hG : (g_l G).stackTraces = false) (d : Nat) (hd : 1 ≤ d)   (σ : MsSt) (l0 : Nat) (h0 : ms_kd l0 = 7) : MsSpec G mX6_empty d 0 0 [.ref l0] σ ms_wv (f_X6_empty σ l0) := by
  refine ms_start (by decide +kernel) rfl rfl (Nat.le_of_ble_eq_true rfl) ?_
  show TrO G mX6_empty d 0 0 0 0 ms_wv 0 [(0, .ref l0)] [] σ (f_X6_empty_2 ms_fuel σ l0 0)
  refine tr_iconst (v := 0) dX6_empty_0 (by decide +kernel) ?_
  refine tr_istore_n (lv' := [(0, .ref l0), (1, .int 0)]) [1, 0] dX6_empty_1 (by decide) rfl ?_
  exact t_X6_empty_2 G hG d hd ms_fuel σ l0 0 h0
theorem dX6_countKind_0 : decode cX6_countKind 0 = .ok (.iconst 0, 1) := by decide +kernel
theorem dX6_countKind_1 : decode cX6_countKind 1 = .ok (.istore_n 2, 1) := by decide +kernel
theorem dX6_countKind_2 : decode cX6_countKind 2 = .ok (.iconst 0, 1) := by decide +kernel
theorem dX6_countKind_3 : decode cX6_countKind 3 = .ok (.istore_n 3, 1) := by decide +kernel
theorem dX6_countKind_4 : decode cX6_countKind 4 = .ok (.iload_n 3, 1) := by decide +kernel
theorem dX6_countKind_5 : decode cX6_countKind 5 = .ok (.aload_n 0, 1) := by decide +kernel
theorem dX6_countKind_6 : decode cX6_countKind 6 = .ok (.getfield 35, 3) := by decide +kernel
theorem dX6_countKind_9 : decode cX6_countKind 9 = .ok (.if_icmp .ge 24, 3) := by decide +kernel
theorem dX6_countKind_12 : decode cX6_countKind 12 = .ok (.aload_n 0, 1) := by decide +kernel
theorem dX6_countKind_13 : decode cX6_countKind 13 = .ok (.iload_n 3, 1) := by decide +kernel
theorem dX6_countKind_14 : decode cX6_countKind 14 = .ok (.invokevirtual 52, 3) := by decide +kernel
theorem dX6_countKind_17 : decode cX6_countKind 17 = .ok (.getfield 56, 3) := by decide +kernel
theorem dX6_countKind_20 : decode cX6_countKind 20 = .ok (.iload_n 1, 1) := by decide +kernel
theorem dX6_countKind_21 : decode cX6_countKind 21 = .ok (.if_icmp .ne 6, 3) := by decide +kernel
theorem dX6_countKind_24 : decode cX6_countKind 24 = .ok (.iinc 2 1, 3) := by decide +kernel
theorem dX6_countKind_27 : decode cX6_countKind 27 = .ok (.iinc 3 1, 3) := by decide +kernel
theorem dX6_countKind_30 : decode cX6_countKind 30 = .ok (.goto (-26), 3) := by decide +kernel
theorem dX6_countKind_33 : decode cX6_countKind 33 = .ok (.iload_n 2, 1) := by decide +kernel
theorem dX6_countKind_34 : decode cX6_countKind 34 = .ok (.ireturn, 1) := by decide +kernel
set_option maxRecDepth 100000 in
theorem t_X6_countKind_4 (G : MG) (hG : (g_l G).stackTraces = false) (d : Nat) (hd : 1 ≤ d)   (σ : MsSt)  : ∀ (n : Nat) (l0 : Nat) (l1 : Int32) (l2 : Int32) (l3 : Int32) (h0 : ms_kd l0 = 7), TrO G mX6_countKind d 0 0 0 0 (ms_ki σ) 4 [(0, .ref l0), (1, .int l1), (2, .int l2), (3, .int l3)] [] σ (f_X6_countKind_4 σ n l0 l1 l2 l3) := by
  intro n
  induction n with
  | zero => exact fun _ _ _ _ _ => tr_none
  | succ n ih =>
    intro l0 l1 l2 l3 h0
    show TrO G mX6_countKind d 0 0 0 0 (ms_ki σ) 4 [(0, .ref l0), (1, .int l1), (2, .int l2), (3, .int l3)] [] σ (if l3 < (ms_i σ l0 4) then (f_X6_told σ l0 l3).bind fun v1 => if (ms_i σ v1 1) = l1 then (f_X6_countKind_4 σ n) l0 l1 (l2 + 1) (l3 + 1) else (f_X6_countKind_4 σ n) l0 l1 l2 (l3 + 1) else some l2)
    refine tr_iload_n (i := 3) dX6_countKind_4 rfl ?_
    refine tr_aload_n (i := 0) dX6_countKind_5 rfl ?_
    refine tr_getI 6 h0 fl_X6_35 (by decide +kernel) dX6_countKind_6 ?_
    refine tr_icge (o := none) (tgt := 33) dX6_countKind_9 (by decide) ?_ ?_
    · refine tr_iload_n (i := 2) dX6_countKind_33 rfl ?_
      exact tr_iret rfl rfl (by decide) (by decide) dX6_countKind_34
    · refine tr_aload_n (i := 0) dX6_countKind_12 rfl ?_
      refine tr_iload_n (i := 3) dX6_countKind_13 rfl ?_
      refine tr_c_a (ms_cV (rest := []) (al := [.int l3]) 6 (sp_X6_told G hG (d - 1) (by omega) σ l0 l3 h0) h0 (by decide +kernel) kl_X6_52 fv_X6_told dX6_countKind_14 (show _ = some 1 by decide +kernel) (by omega) (Nat.le_of_ble_eq_true rfl) (by decide) (by decide)) (fun v1 e_v1 => ?_)
      refine tr_getI 7 (ra_X6_told h0 e_v1) fl_X6_56 (by decide +kernel) dX6_countKind_17 ?_
      refine tr_iload_n (i := 1) dX6_countKind_20 rfl ?_
      refine tr_icne (o := none) (tgt := 27) dX6_countKind_21 (by decide) ?_ ?_
      · refine tr_iinc (k := 3) (v := (l3 + 1)) (lv' := [(0, .ref l0), (1, .int l1), (2, .int l2), (3, .int (l3 + 1))]) [1, 2, 3, 0] dX6_countKind_27 rfl rfl (by decide) rfl ?_
        refine tr_goto (tgt := 4) dX6_countKind_30 (by decide) ?_
        exact (fun y0 y1 y2 y3 g0 => ih y0 y1 y2 y3 g0) l0 l1 l2 (l3 + 1) h0
      · refine tr_iinc (k := 2) (v := (l2 + 1)) (lv' := [(0, .ref l0), (1, .int l1), (2, .int (l2 + 1)), (3, .int l3)]) [1, 2, 0, 3] dX6_countKind_24 rfl rfl (by decide) rfl ?_
        refine tr_iinc (k := 3) (v := (l3 + 1)) (lv' := [(0, .ref l0), (1, .int l1), (2, .int (l2 + 1)), (3, .int (l3 + 1))]) [1, 2, 3, 0] dX6_countKind_27 rfl rfl (by decide) rfl ?_
        refine tr_goto (tgt := 4) dX6_countKind_30 (by decide) ?_
        exact (fun y0 y1 y2 y3 g0 => ih y0 y1 y2 y3 g0) l0 l1 (l2 + 1) (l3 + 1) h0
set_option maxRecDepth 100000 in
theorem sp_X6_countKind (G : MG) (hG : (g_l G).stackTraces = false) (d : Nat) (hd : 1 ≤ d)   (σ : MsSt) (l0 : Nat) (l1 : Int32) (h0 : ms_kd l0 = 7) : MsSpec G mX6_countKind d 0 0 [.ref l0, .int l1] σ (ms_ki σ) (f_X6_countKind σ l0 l1) := by
  refine ms_start (by decide +kernel) rfl rfl (Nat.le_of_ble_eq_true rfl) ?_
  show TrO G mX6_countKind d 0 0 0 0 (ms_ki σ) 0 [(0, .ref l0), (1, .int l1)] [] σ (f_X6_countKind_4 σ ms_fuel l0 l1 0 0)
  refine tr_iconst (v := 0) dX6_countKind_0 (by decide +kernel) ?_
  refine tr_istore_n (lv' := [(0, .ref l0), (1, .int l1), (2, .int 0)]) [1, 2, 0] dX6_countKind_1 (by decide) rfl ?_
  refine tr_iconst (v := 0) dX6_countKind_2 (by decide +kernel) ?_
  refine tr_istore_n (lv' := [(0, .ref l0), (1, .int l1), (2, .int 0), (3, .int 0)]) [1, 2, 3, 0] dX6_countKind_3 (by decide) rfl ?_
  exact t_X6_countKind_4 G hG d hd σ ms_fuel l0 l1 0 0 h0
theorem dX6_countSpare_0 : decode cX6_countSpare 0 = .ok (.iconst 0, 1) := by decide +kernel
theorem dX6_countSpare_1 : decode cX6_countSpare 1 = .ok (.istore_n 1, 1) := by decide +kernel
theorem dX6_countSpare_2 : decode cX6_countSpare 2 = .ok (.iconst 0, 1) := by decide +kernel
theorem dX6_countSpare_3 : decode cX6_countSpare 3 = .ok (.istore_n 2, 1) := by decide +kernel
theorem dX6_countSpare_4 : decode cX6_countSpare 4 = .ok (.iload_n 2, 1) := by decide +kernel
theorem dX6_countSpare_5 : decode cX6_countSpare 5 = .ok (.aload_n 0, 1) := by decide +kernel
theorem dX6_countSpare_6 : decode cX6_countSpare 6 = .ok (.getfield 35, 3) := by decide +kernel
theorem dX6_countSpare_9 : decode cX6_countSpare 9 = .ok (.if_icmp .ge 23, 3) := by decide +kernel
theorem dX6_countSpare_12 : decode cX6_countSpare 12 = .ok (.aload_n 0, 1) := by decide +kernel
theorem dX6_countSpare_13 : decode cX6_countSpare 13 = .ok (.iload_n 2, 1) := by decide +kernel
theorem dX6_countSpare_14 : decode cX6_countSpare 14 = .ok (.invokevirtual 52, 3) := by decide +kernel
theorem dX6_countSpare_17 : decode cX6_countSpare 17 = .ok (.getfield 65, 3) := by decide +kernel
theorem dX6_countSpare_20 : decode cX6_countSpare 20 = .ok (.ifCond .eq 6, 3) := by decide +kernel
theorem dX6_countSpare_23 : decode cX6_countSpare 23 = .ok (.iinc 1 1, 3) := by decide +kernel
theorem dX6_countSpare_26 : decode cX6_countSpare 26 = .ok (.iinc 2 1, 3) := by decide +kernel
theorem dX6_countSpare_29 : decode cX6_countSpare 29 = .ok (.goto (-25), 3) := by decide +kernel
theorem dX6_countSpare_32 : decode cX6_countSpare 32 = .ok (.iload_n 1, 1) := by decide +kernel
theorem dX6_countSpare_33 : decode cX6_countSpare 33 = .ok (.ireturn, 1) := by decide +kernel
set_option maxRecDepth 100000 in
theorem t_X6_countSpare_4 (G : MG) (hG : (g_l G).stackTraces = false) (d : Nat) (hd : 1 ≤ d)   (σ : MsSt)  : ∀ (n : Nat) (l0 : Nat) (l1 : Int32) (l2 : Int32) (h0 : ms_kd l0 = 7), TrO G mX6_countSpare d 0 0 0 0 (ms_ki σ) 4 [(0, .ref l0), (1, .int l1), (2, .int l2)] [] σ (f_X6_countSpare_4 σ n l0 l1 l2) := by
  intro n
  induction n with
  | zero => exact fun _ _ _ _ => tr_none
  | succ n ih =>
    intro l0 l1 l2 h0
    show TrO G mX6_countSpare d 0 0 0 0 (ms_ki σ) 4 [(0, .ref l0), (1, .int l1), (2, .int l2)] [] σ (if l2 < (ms_i σ l0 4) then (f_X6_told σ l0 l2).bind fun v1 => if (ms_i σ v1 13) = 0 then (f_X6_countSpare_4 σ n) l0 l1 (l2 + 1) else (f_X6_countSpare_4 σ n) l0 (l1 + 1) (l2 + 1) else some l1)
    refine tr_iload_n (i := 2) dX6_countSpare_4 rfl ?_
    refine tr_aload_n (i := 0) dX6_countSpare_5 rfl ?_
    refine tr_getI 6 h0 fl_X6_35 (by decide +kernel) dX6_countSpare_6 ?_
    refine tr_icge (o := none) (tgt := 32) dX6_countSpare_9 (by decide) ?_ ?_
    · refine tr_iload_n (i := 1) dX6_countSpare_32 rfl ?_
      exact tr_iret rfl rfl (by decide) (by decide) dX6_countSpare_33
    · refine tr_aload_n (i := 0) dX6_countSpare_12 rfl ?_
      refine tr_iload_n (i := 2) dX6_countSpare_13 rfl ?_
      refine tr_c_a (ms_cV (rest := []) (al := [.int l2]) 6 (sp_X6_told G hG (d - 1) (by omega) σ l0 l2 h0) h0 (by decide +kernel) kl_X6_52 fv_X6_told dX6_countSpare_14 (show _ = some 1 by decide +kernel) (by omega) (Nat.le_of_ble_eq_true rfl) (by decide) (by decide)) (fun v1 e_v1 => ?_)
      refine tr_getI 7 (ra_X6_told h0 e_v1) fl_X6_65 (by decide +kernel) dX6_countSpare_17 ?_
      refine tr_ifeq (o := none) (tgt := 26) dX6_countSpare_20 (by decide) ?_ ?_
      · refine tr_iinc (k := 2) (v := (l2 + 1)) (lv' := [(0, .ref l0), (1, .int l1), (2, .int (l2 + 1))]) [1, 2, 0] dX6_countSpare_26 rfl rfl (by decide) rfl ?_
        refine tr_goto (tgt := 4) dX6_countSpare_29 (by decide) ?_
        exact (fun y0 y1 y2 g0 => ih y0 y1 y2 g0) l0 l1 (l2 + 1) h0
      · refine tr_iinc (k := 1) (v := (l1 + 1)) (lv' := [(0, .ref l0), (1, .int (l1 + 1)), (2, .int l2)]) [1, 0, 2] dX6_countSpare_23 rfl rfl (by decide) rfl ?_
        refine tr_iinc (k := 2) (v := (l2 + 1)) (lv' := [(0, .ref l0), (1, .int (l1 + 1)), (2, .int (l2 + 1))]) [1, 2, 0] dX6_countSpare_26 rfl rfl (by decide) rfl ?_
        refine tr_goto (tgt := 4) dX6_countSpare_29 (by decide) ?_
        exact (fun y0 y1 y2 g0 => ih y0 y1 y2 g0) l0 (l1 + 1) (l2 + 1) h0
set_option maxRecDepth 100000 in
theorem sp_X6_countSpare (G : MG) (hG : (g_l G).stackTraces = false) (d : Nat) (hd : 1 ≤ d)   (σ : MsSt) (l0 : Nat) (h0 : ms_kd l0 = 7) : MsSpec G mX6_countSpare d 0 0 [.ref l0] σ (ms_ki σ) (f_X6_countSpare σ l0) := by
  refine ms_start (by decide +kernel) rfl rfl (Nat.le_of_ble_eq_true rfl) ?_
  show TrO G mX6_countSpare d 0 0 0 0 (ms_ki σ) 0 [(0, .ref l0)] [] σ (f_X6_countSpare_4 σ ms_fuel l0 0 0)
  refine tr_iconst (v := 0) dX6_countSpare_0 (by decide +kernel) ?_
  refine tr_istore_n (lv' := [(0, .ref l0), (1, .int 0)]) [1, 0] dX6_countSpare_1 (by decide) rfl ?_
  refine tr_iconst (v := 0) dX6_countSpare_2 (by decide +kernel) ?_
  refine tr_istore_n (lv' := [(0, .ref l0), (1, .int 0), (2, .int 0)]) [1, 2, 0] dX6_countSpare_3 (by decide) rfl ?_
  exact t_X6_countSpare_4 G hG d hd σ ms_fuel l0 0 0 h0
theorem dX6_countExpandedWith_0 : decode cX6_countExpandedWith 0 = .ok (.iconst 0, 1) := by decide +kernel
theorem dX6_countExpandedWith_1 : decode cX6_countExpandedWith 1 = .ok (.istore_n 2, 1) := by decide +kernel
theorem dX6_countExpandedWith_2 : decode cX6_countExpandedWith 2 = .ok (.iconst 0, 1) := by decide +kernel
theorem dX6_countExpandedWith_3 : decode cX6_countExpandedWith 3 = .ok (.istore_n 3, 1) := by decide +kernel
theorem dX6_countExpandedWith_4 : decode cX6_countExpandedWith 4 = .ok (.iload_n 3, 1) := by decide +kernel
theorem dX6_countExpandedWith_5 : decode cX6_countExpandedWith 5 = .ok (.aload_n 0, 1) := by decide +kernel
theorem dX6_countExpandedWith_6 : decode cX6_countExpandedWith 6 = .ok (.getfield 35, 3) := by decide +kernel
theorem dX6_countExpandedWith_9 : decode cX6_countExpandedWith 9 = .ok (.if_icmp .ge 36, 3) := by decide +kernel
theorem dX6_countExpandedWith_12 : decode cX6_countExpandedWith 12 = .ok (.aload_n 0, 1) := by decide +kernel
theorem dX6_countExpandedWith_13 : decode cX6_countExpandedWith 13 = .ok (.iload_n 3, 1) := by decide +kernel
theorem dX6_countExpandedWith_14 : decode cX6_countExpandedWith 14 = .ok (.invokevirtual 69, 3) := by decide +kernel
theorem dX6_countExpandedWith_17 : decode cX6_countExpandedWith 17 = .ok (.iconst 2, 1) := by decide +kernel
theorem dX6_countExpandedWith_18 : decode cX6_countExpandedWith 18 = .ok (.if_icmp .ne 21, 3) := by decide +kernel
theorem dX6_countExpandedWith_21 : decode cX6_countExpandedWith 21 = .ok (.aload_n 0, 1) := by decide +kernel
theorem dX6_countExpandedWith_22 : decode cX6_countExpandedWith 22 = .ok (.iload_n 3, 1) := by decide +kernel
theorem dX6_countExpandedWith_23 : decode cX6_countExpandedWith 23 = .ok (.invokevirtual 52, 3) := by decide +kernel
theorem dX6_countExpandedWith_26 : decode cX6_countExpandedWith 26 = .ok (.getfield 73, 3) := by decide +kernel
theorem dX6_countExpandedWith_29 : decode cX6_countExpandedWith 29 = .ok (.iload_n 1, 1) := by decide +kernel
theorem dX6_countExpandedWith_30 : decode cX6_countExpandedWith 30 = .ok (.invokevirtual 76, 3) := by decide +kernel
theorem dX6_countExpandedWith_33 : decode cX6_countExpandedWith 33 = .ok (.ifCond .eq 6, 3) := by decide +kernel
theorem dX6_countExpandedWith_36 : decode cX6_countExpandedWith 36 = .ok (.iinc 2 1, 3) := by decide +kernel
theorem dX6_countExpandedWith_39 : decode cX6_countExpandedWith 39 = .ok (.iinc 3 1, 3) := by decide +kernel
theorem dX6_countExpandedWith_42 : decode cX6_countExpandedWith 42 = .ok (.goto (-38), 3) := by decide +kernel
theorem dX6_countExpandedWith_45 : decode cX6_countExpandedWith 45 = .ok (.iload_n 2, 1) := by decide +kernel
theorem dX6_countExpandedWith_46 : decode cX6_countExpandedWith 46 = .ok (.ireturn, 1) := by decide +kernel
set_option maxRecDepth 100000 in
theorem t_X6_countExpandedWith_4 (G : MG) (hG : (g_l G).stackTraces = false) (d : Nat) (hd : 2 ≤ d)   (σ : MsSt)  : ∀ (n : Nat) (l0 : Nat) (l1 : Int32) (l2 : Int32) (l3 : Int32) (h0 : ms_kd l0 = 7), TrO G mX6_countExpandedWith d 0 0 0 0 (ms_ki σ) 4 [(0, .ref l0), (1, .int l1), (2, .int l2), (3, .int l3)] [] σ (f_X6_countExpandedWith_4 σ n l0 l1 l2 l3) := by
  intro n
  induction n with
  | zero => exact fun _ _ _ _ _ => tr_none
  | succ n ih =>
    intro l0 l1 l2 l3 h0
    show TrO G mX6_countExpandedWith d 0 0 0 0 (ms_ki σ) 4 [(0, .ref l0), (1, .int l1), (2, .int l2), (3, .int l3)] [] σ (if l3 < (ms_i σ l0 4) then (f_X6_kindOf σ l0 l3).bind fun v1 => if v1 = 2 then (f_X6_told σ l0 l3).bind fun v2 => (f_X5_contains σ (ms_rf v2 0) l1).bind fun v3 => if v3 = 0 then (f_X6_countExpandedWith_4 σ n) l0 l1 l2 (l3 + 1) else (f_X6_countExpandedWith_4 σ n) l0 l1 (l2 + 1) (l3 + 1) else (f_X6_countExpandedWith_4 σ n) l0 l1 l2 (l3 + 1) else some l2)
    refine tr_iload_n (i := 3) dX6_countExpandedWith_4 rfl ?_
    refine tr_aload_n (i := 0) dX6_countExpandedWith_5 rfl ?_
    refine tr_getI 6 h0 fl_X6_35 (by decide +kernel) dX6_countExpandedWith_6 ?_
    refine tr_icge (o := none) (tgt := 45) dX6_countExpandedWith_9 (by decide) ?_ ?_
    · refine tr_iload_n (i := 2) dX6_countExpandedWith_45 rfl ?_
      exact tr_iret rfl rfl (by decide) (by decide) dX6_countExpandedWith_46
    · refine tr_aload_n (i := 0) dX6_countExpandedWith_12 rfl ?_
      refine tr_iload_n (i := 3) dX6_countExpandedWith_13 rfl ?_
      refine tr_c_i (ms_cV (rest := []) (al := [.int l3]) 6 (sp_X6_kindOf G hG (d - 1) (by omega) σ l0 l3 h0) h0 (by decide +kernel) kl_X6_69 fv_X6_kindOf dX6_countExpandedWith_14 (show _ = some 1 by decide +kernel) (by omega) (Nat.le_of_ble_eq_true rfl) (by decide) (by decide)) (fun v1 => ?_)
      refine tr_iconst (v := 2) dX6_countExpandedWith_17 (by decide +kernel) ?_
      refine tr_icne (o := none) (tgt := 39) dX6_countExpandedWith_18 (by decide) ?_ ?_
      · refine tr_iinc (k := 3) (v := (l3 + 1)) (lv' := [(0, .ref l0), (1, .int l1), (2, .int l2), (3, .int (l3 + 1))]) [1, 2, 3, 0] dX6_countExpandedWith_39 rfl rfl (by decide) rfl ?_
        refine tr_goto (tgt := 4) dX6_countExpandedWith_42 (by decide) ?_
        exact (fun y0 y1 y2 y3 g0 => ih y0 y1 y2 y3 g0) l0 l1 l2 (l3 + 1) h0
      · refine tr_aload_n (i := 0) dX6_countExpandedWith_21 rfl ?_
        refine tr_iload_n (i := 3) dX6_countExpandedWith_22 rfl ?_
        refine tr_c_a (ms_cV (rest := []) (al := [.int l3]) 6 (sp_X6_told G hG (d - 1) (by omega) σ l0 l3 h0) h0 (by decide +kernel) kl_X6_52 fv_X6_told dX6_countExpandedWith_23 (show _ = some 1 by decide +kernel) (by omega) (Nat.le_of_ble_eq_true rfl) (by decide) (by decide)) (fun v2 e_v2 => ?_)
        refine tr_getR 7 (ra_X6_told h0 e_v2) fl_X6_73 (by decide +kernel) dX6_countExpandedWith_26 ?_
        refine tr_iload_n (i := 1) dX6_countExpandedWith_29 rfl ?_
        refine tr_c_i (ms_cV (rest := []) (al := [.int l1]) 5 (sp_X5_contains G hG (d - 1) (by omega) σ (ms_rf v2 0) l1 (rk_7_0 (ra_X6_told h0 e_v2))) (rk_7_0 (ra_X6_told h0 e_v2)) (by decide +kernel) kl_X6_76 fv_X5_contains dX6_countExpandedWith_30 (show _ = some 1 by decide +kernel) (by omega) (Nat.le_of_ble_eq_true rfl) (by decide) (by decide)) (fun v3 => ?_)
        refine tr_ifeq (o := none) (tgt := 39) dX6_countExpandedWith_33 (by decide) ?_ ?_
        · refine tr_iinc (k := 3) (v := (l3 + 1)) (lv' := [(0, .ref l0), (1, .int l1), (2, .int l2), (3, .int (l3 + 1))]) [1, 2, 3, 0] dX6_countExpandedWith_39 rfl rfl (by decide) rfl ?_
          refine tr_goto (tgt := 4) dX6_countExpandedWith_42 (by decide) ?_
          exact (fun y0 y1 y2 y3 g0 => ih y0 y1 y2 y3 g0) l0 l1 l2 (l3 + 1) h0
        · refine tr_iinc (k := 2) (v := (l2 + 1)) (lv' := [(0, .ref l0), (1, .int l1), (2, .int (l2 + 1)), (3, .int l3)]) [1, 2, 0, 3] dX6_countExpandedWith_36 rfl rfl (by decide) rfl ?_
          refine tr_iinc (k := 3) (v := (l3 + 1)) (lv' := [(0, .ref l0), (1, .int l1), (2, .int (l2 + 1)), (3, .int (l3 + 1))]) [1, 2, 3, 0] dX6_countExpandedWith_39 rfl rfl (by decide) rfl ?_
          refine tr_goto (tgt := 4) dX6_countExpandedWith_42 (by decide) ?_
          exact (fun y0 y1 y2 y3 g0 => ih y0 y1 y2 y3 g0) l0 l1 (l2 + 1) (l3 + 1) h0
set_option maxRecDepth 100000 in
theorem sp_X6_countExpandedWith (G : MG) (hG : (g_l G).stackTraces = false) (d : Nat) (hd : 2 ≤ d)   (σ : MsSt) (l0 : Nat) (l1 : Int32) (h0 : ms_kd l0 = 7) : MsSpec G mX6_countExpandedWith d 0 0 [.ref l0, .int l1] σ (ms_ki σ) (f_X6_countExpandedWith σ l0 l1) := by
  refine ms_start (by decide +kernel) rfl rfl (Nat.le_of_ble_eq_true rfl) ?_
  show TrO G mX6_countExpandedWith d 0 0 0 0 (ms_ki σ) 0 [(0, .ref l0), (1, .int l1)] [] σ (f_X6_countExpandedWith_4 σ ms_fuel l0 l1 0 0)
  refine tr_iconst (v := 0) dX6_countExpandedWith_0 (by decide +kernel) ?_
  refine tr_istore_n (lv' := [(0, .ref l0), (1, .int l1), (2, .int 0)]) [1, 2, 0] dX6_countExpandedWith_1 (by decide) rfl ?_
  refine tr_iconst (v := 0) dX6_countExpandedWith_2 (by decide +kernel) ?_
  refine tr_istore_n (lv' := [(0, .ref l0), (1, .int l1), (2, .int 0), (3, .int 0)]) [1, 2, 3, 0] dX6_countExpandedWith_3 (by decide) rfl ?_
  exact t_X6_countExpandedWith_4 G hG d hd σ ms_fuel l0 l1 0 0 h0
theorem dX6_countLinesWith_0 : decode cX6_countLinesWith 0 = .ok (.iconst 0, 1) := by decide +kernel
theorem dX6_countLinesWith_1 : decode cX6_countLinesWith 1 = .ok (.istore_n 2, 1) := by decide +kernel
theorem dX6_countLinesWith_2 : decode cX6_countLinesWith 2 = .ok (.iconst 0, 1) := by decide +kernel
theorem dX6_countLinesWith_3 : decode cX6_countLinesWith 3 = .ok (.istore_n 3, 1) := by decide +kernel
theorem dX6_countLinesWith_4 : decode cX6_countLinesWith 4 = .ok (.iload_n 3, 1) := by decide +kernel
theorem dX6_countLinesWith_5 : decode cX6_countLinesWith 5 = .ok (.aload_n 0, 1) := by decide +kernel
theorem dX6_countLinesWith_6 : decode cX6_countLinesWith 6 = .ok (.getfield 39, 3) := by decide +kernel
theorem dX6_countLinesWith_9 : decode cX6_countLinesWith 9 = .ok (.if_icmp .ge 24, 3) := by decide +kernel
theorem dX6_countLinesWith_12 : decode cX6_countLinesWith 12 = .ok (.aload_n 0, 1) := by decide +kernel
theorem dX6_countLinesWith_13 : decode cX6_countLinesWith 13 = .ok (.iload_n 3, 1) := by decide +kernel
theorem dX6_countLinesWith_14 : decode cX6_countLinesWith 14 = .ok (.invokevirtual 45, 3) := by decide +kernel
theorem dX6_countLinesWith_17 : decode cX6_countLinesWith 17 = .ok (.iload_n 1, 1) := by decide +kernel
theorem dX6_countLinesWith_18 : decode cX6_countLinesWith 18 = .ok (.invokevirtual 76, 3) := by decide +kernel
theorem dX6_countLinesWith_21 : decode cX6_countLinesWith 21 = .ok (.ifCond .eq 6, 3) := by decide +kernel
theorem dX6_countLinesWith_24 : decode cX6_countLinesWith 24 = .ok (.iinc 2 1, 3) := by decide +kernel
theorem dX6_countLinesWith_27 : decode cX6_countLinesWith 27 = .ok (.iinc 3 1, 3) := by decide +kernel
theorem dX6_countLinesWith_30 : decode cX6_countLinesWith 30 = .ok (.goto (-26), 3) := by decide +kernel
theorem dX6_countLinesWith_33 : decode cX6_countLinesWith 33 = .ok (.iload_n 2, 1) := by decide +kernel
theorem dX6_countLinesWith_34 : decode cX6_countLinesWith 34 = .ok (.ireturn, 1) := by decide +kernel
set_option maxRecDepth 100000 in
theorem t_X6_countLinesWith_4 (G : MG) (hG : (g_l G).stackTraces = false) (d : Nat) (hd : 2 ≤ d)   (σ : MsSt)  : ∀ (n : Nat) (l0 : Nat) (l1 : Int32) (l2 : Int32) (l3 : Int32) (h0 : ms_kd l0 = 7), TrO G mX6_countLinesWith d 0 0 0 0 (ms_ki σ) 4 [(0, .ref l0), (1, .int l1), (2, .int l2), (3, .int l3)] [] σ (f_X6_countLinesWith_4 σ n l0 l1 l2 l3) := by
  intro n
  induction n with
  | zero => exact fun _ _ _ _ _ => tr_none
  | succ n ih =>
    intro l0 l1 l2 l3 h0
    show TrO G mX6_countLinesWith d 0 0 0 0 (ms_ki σ) 4 [(0, .ref l0), (1, .int l1), (2, .int l2), (3, .int l3)] [] σ (if l3 < (ms_i σ l0 5) then (f_X6_lineAt σ l0 l3).bind fun v1 => (f_X5_contains σ v1 l1).bind fun v2 => if v2 = 0 then (f_X6_countLinesWith_4 σ n) l0 l1 l2 (l3 + 1) else (f_X6_countLinesWith_4 σ n) l0 l1 (l2 + 1) (l3 + 1) else some l2)
    refine tr_iload_n (i := 3) dX6_countLinesWith_4 rfl ?_
    refine tr_aload_n (i := 0) dX6_countLinesWith_5 rfl ?_
    refine tr_getI 6 h0 fl_X6_39 (by decide +kernel) dX6_countLinesWith_6 ?_
    refine tr_icge (o := none) (tgt := 33) dX6_countLinesWith_9 (by decide) ?_ ?_
    · refine tr_iload_n (i := 2) dX6_countLinesWith_33 rfl ?_
      exact tr_iret rfl rfl (by decide) (by decide) dX6_countLinesWith_34
    · refine tr_aload_n (i := 0) dX6_countLinesWith_12 rfl ?_
      refine tr_iload_n (i := 3) dX6_countLinesWith_13 rfl ?_
      refine tr_c_a (ms_cV (rest := []) (al := [.int l3]) 6 (sp_X6_lineAt G hG (d - 1) (by omega) σ l0 l3 h0) h0 (by decide +kernel) kl_X6_45 fv_X6_lineAt dX6_countLinesWith_14 (show _ = some 1 by decide +kernel) (by omega) (Nat.le_of_ble_eq_true rfl) (by decide) (by decide)) (fun v1 e_v1 => ?_)
      refine tr_iload_n (i := 1) dX6_countLinesWith_17 rfl ?_
      refine tr_c_i (ms_cV (rest := []) (al := [.int l1]) 5 (sp_X5_contains G hG (d - 1) (by omega) σ v1 l1 (ra_X6_lineAt h0 e_v1)) (ra_X6_lineAt h0 e_v1) (by decide +kernel) kl_X6_76 fv_X5_contains dX6_countLinesWith_18 (show _ = some 1 by decide +kernel) (by omega) (Nat.le_of_ble_eq_true rfl) (by decide) (by decide)) (fun v2 => ?_)
      refine tr_ifeq (o := none) (tgt := 27) dX6_countLinesWith_21 (by decide) ?_ ?_
      · refine tr_iinc (k := 3) (v := (l3 + 1)) (lv' := [(0, .ref l0), (1, .int l1), (2, .int l2), (3, .int (l3 + 1))]) [1, 2, 3, 0] dX6_countLinesWith_27 rfl rfl (by decide) rfl ?_
        refine tr_goto (tgt := 4) dX6_countLinesWith_30 (by decide) ?_
        exact (fun y0 y1 y2 y3 g0 => ih y0 y1 y2 y3 g0) l0 l1 l2 (l3 + 1) h0
      · refine tr_iinc (k := 2) (v := (l2 + 1)) (lv' := [(0, .ref l0), (1, .int l1), (2, .int (l2 + 1)), (3, .int l3)]) [1, 2, 0, 3] dX6_countLinesWith_24 rfl rfl (by decide) rfl ?_
        refine tr_iinc (k := 3) (v := (l3 + 1)) (lv' := [(0, .ref l0), (1, .int l1), (2, .int (l2 + 1)), (3, .int (l3 + 1))]) [1, 2, 3, 0] dX6_countLinesWith_27 rfl rfl (by decide) rfl ?_
        refine tr_goto (tgt := 4) dX6_countLinesWith_30 (by decide) ?_
        exact (fun y0 y1 y2 y3 g0 => ih y0 y1 y2 y3 g0) l0 l1 (l2 + 1) (l3 + 1) h0
set_option maxRecDepth 100000 in
theorem sp_X6_countLinesWith (G : MG) (hG : (g_l G).stackTraces = false) (d : Nat) (hd : 2 ≤ d)   (σ : MsSt) (l0 : Nat) (l1 : Int32) (h0 : ms_kd l0 = 7) : MsSpec G mX6_countLinesWith d 0 0 [.ref l0, .int l1] σ (ms_ki σ) (f_X6_countLinesWith σ l0 l1) := by
  refine ms_start (by decide +kernel) rfl rfl (Nat.le_of_ble_eq_true rfl) ?_
  show TrO G mX6_countLinesWith d 0 0 0 0 (ms_ki σ) 0 [(0, .ref l0), (1, .int l1)] [] σ (f_X6_countLinesWith_4 σ ms_fuel l0 l1 0 0)
  refine tr_iconst (v := 0) dX6_countLinesWith_0 (by decide +kernel) ?_
  refine tr_istore_n (lv' := [(0, .ref l0), (1, .int l1), (2, .int 0)]) [1, 2, 0] dX6_countLinesWith_1 (by decide) rfl ?_
  refine tr_iconst (v := 0) dX6_countLinesWith_2 (by decide +kernel) ?_
  refine tr_istore_n (lv' := [(0, .ref l0), (1, .int l1), (2, .int 0), (3, .int 0)]) [1, 2, 3, 0] dX6_countLinesWith_3 (by decide) rfl ?_
  exact t_X6_countLinesWith_4 G hG d hd σ ms_fuel l0 l1 0 0 h0
theorem dX6_findName_0 : decode cX6_findName 0 = .ok (.iconst 0, 1) := by decide +kernel
theorem dX6_findName_1 : decode cX6_findName 1 = .ok (.istore_n 2, 1) := by decide +kernel
theorem dX6_findName_2 : decode cX6_findName 2 = .ok (.iload_n 2, 1) := by decide +kernel
theorem dX6_findName_3 : decode cX6_findName 3 = .ok (.aload_n 0, 1) := by decide +kernel
theorem dX6_findName_4 : decode cX6_findName 4 = .ok (.getfield 35, 3) := by decide +kernel
theorem dX6_findName_7 : decode cX6_findName 7 = .ok (.if_icmp .ge 23, 3) := by decide +kernel
theorem dX6_findName_10 : decode cX6_findName 10 = .ok (.aload_n 0, 1) := by decide +kernel
theorem dX6_findName_11 : decode cX6_findName 11 = .ok (.iload_n 2, 1) := by decide +kernel
theorem dX6_findName_12 : decode cX6_findName 12 = .ok (.invokevirtual 52, 3) := by decide +kernel
theorem dX6_findName_15 : decode cX6_findName 15 = .ok (.getfield 80, 3) := by decide +kernel
theorem dX6_findName_18 : decode cX6_findName 18 = .ok (.iload_n 1, 1) := by decide +kernel
theorem dX6_findName_19 : decode cX6_findName 19 = .ok (.if_icmp .ne 5, 3) := by decide +kernel
theorem dX6_findName_22 : decode cX6_findName 22 = .ok (.iload_n 2, 1) := by decide +kernel
theorem dX6_findName_23 : decode cX6_findName 23 = .ok (.ireturn, 1) := by decide +kernel
theorem dX6_findName_24 : decode cX6_findName 24 = .ok (.iinc 2 1, 3) := by decide +kernel
theorem dX6_findName_27 : decode cX6_findName 27 = .ok (.goto (-25), 3) := by decide +kernel
theorem dX6_findName_30 : decode cX6_findName 30 = .ok (.iconst (-1), 1) := by decide +kernel
theorem dX6_findName_31 : decode cX6_findName 31 = .ok (.ireturn, 1) := by decide +kernel
set_option maxRecDepth 100000 in
theorem t_X6_findName_2 (G : MG) (hG : (g_l G).stackTraces = false) (d : Nat) (hd : 1 ≤ d)   (σ : MsSt)  : ∀ (n : Nat) (l0 : Nat) (l1 : Int32) (l2 : Int32) (h0 : ms_kd l0 = 7), TrO G mX6_findName d 0 0 0 0 (ms_ki σ) 2 [(0, .ref l0), (1, .int l1), (2, .int l2)] [] σ (f_X6_findName_2 σ n l0 l1 l2) := by
  intro n
  induction n with
  | zero => exact fun _ _ _ _ => tr_none
  | succ n ih =>
    intro l0 l1 l2 h0
    show TrO G mX6_findName d 0 0 0 0 (ms_ki σ) 2 [(0, .ref l0), (1, .int l1), (2, .int l2)] [] σ (if l2 < (ms_i σ l0 4) then (f_X6_told σ l0 l2).bind fun v1 => if (ms_i σ v1 2) = l1 then some l2 else (f_X6_findName_2 σ n) l0 l1 (l2 + 1) else some (-1))
    refine tr_iload_n (i := 2) dX6_findName_2 rfl ?_
    refine tr_aload_n (i := 0) dX6_findName_3 rfl ?_
    refine tr_getI 6 h0 fl_X6_35 (by decide +kernel) dX6_findName_4 ?_
    refine tr_icge (o := none) (tgt := 30) dX6_findName_7 (by decide) ?_ ?_
    · refine tr_iconst (v := (-1)) dX6_findName_30 (by decide +kernel) ?_
      exact tr_iret rfl rfl (by decide) (by decide) dX6_findName_31
    · refine tr_aload_n (i := 0) dX6_findName_10 rfl ?_
      refine tr_iload_n (i := 2) dX6_findName_11 rfl ?_
      refine tr_c_a (ms_cV (rest := []) (al := [.int l2]) 6 (sp_X6_told G hG (d - 1) (by omega) σ l0 l2 h0) h0 (by decide +kernel) kl_X6_52 fv_X6_told dX6_findName_12 (show _ = some 1 by decide +kernel) (by omega) (Nat.le_of_ble_eq_true rfl) (by decide) (by decide)) (fun v1 e_v1 => ?_)
      refine tr_getI 7 (ra_X6_told h0 e_v1) fl_X6_80 (by decide +kernel) dX6_findName_15 ?_
      refine tr_iload_n (i := 1) dX6_findName_18 rfl ?_
      refine tr_icne (o := none) (tgt := 24) dX6_findName_19 (by decide) ?_ ?_
      · refine tr_iinc (k := 2) (v := (l2 + 1)) (lv' := [(0, .ref l0), (1, .int l1), (2, .int (l2 + 1))]) [1, 2, 0] dX6_findName_24 rfl rfl (by decide) rfl ?_
        refine tr_goto (tgt := 2) dX6_findName_27 (by decide) ?_
        exact (fun y0 y1 y2 g0 => ih y0 y1 y2 g0) l0 l1 (l2 + 1) h0
      · refine tr_iload_n (i := 2) dX6_findName_22 rfl ?_
        exact tr_iret rfl rfl (by decide) (by decide) dX6_findName_23
set_option maxRecDepth 100000 in
theorem sp_X6_findName (G : MG) (hG : (g_l G).stackTraces = false) (d : Nat) (hd : 1 ≤ d)   (σ : MsSt) (l0 : Nat) (l1 : Int32) (h0 : ms_kd l0 = 7) : MsSpec G mX6_findName d 0 0 [.ref l0, .int l1] σ (ms_ki σ) (f_X6_findName σ l0 l1) := by
  refine ms_start (by decide +kernel) rfl rfl (Nat.le_of_ble_eq_true rfl) ?_
  show TrO G mX6_findName d 0 0 0 0 (ms_ki σ) 0 [(0, .ref l0), (1, .int l1)] [] σ (f_X6_findName_2 σ ms_fuel l0 l1 0)
  refine tr_iconst (v := 0) dX6_findName_0 (by decide +kernel) ?_
  refine tr_istore_n (lv' := [(0, .ref l0), (1, .int l1), (2, .int 0)]) [1, 2, 0] dX6_findName_1 (by decide) rfl ?_
  exact t_X6_findName_2 G hG d hd σ ms_fuel l0 l1 0 h0
theorem dX6_sideOfClass_0 : decode cX6_sideOfClass 0 = .ok (.iconst 0, 1) := by decide +kernel
theorem dX6_sideOfClass_1 : decode cX6_sideOfClass 1 = .ok (.istore_n 3, 1) := by decide +kernel
theorem dX6_sideOfClass_2 : decode cX6_sideOfClass 2 = .ok (.iload_n 3, 1) := by decide +kernel
theorem dX6_sideOfClass_3 : decode cX6_sideOfClass 3 = .ok (.aload_n 0, 1) := by decide +kernel
theorem dX6_sideOfClass_4 : decode cX6_sideOfClass 4 = .ok (.getfield 35, 3) := by decide +kernel
theorem dX6_sideOfClass_7 : decode cX6_sideOfClass 7 = .ok (.if_icmp .ge 41, 3) := by decide +kernel
theorem dX6_sideOfClass_10 : decode cX6_sideOfClass 10 = .ok (.iload_n 3, 1) := by decide +kernel
theorem dX6_sideOfClass_11 : decode cX6_sideOfClass 11 = .ok (.iload_n 2, 1) := by decide +kernel
theorem dX6_sideOfClass_12 : decode cX6_sideOfClass 12 = .ok (.if_icmp .eq 30, 3) := by decide +kernel
theorem dX6_sideOfClass_15 : decode cX6_sideOfClass 15 = .ok (.aload_n 0, 1) := by decide +kernel
theorem dX6_sideOfClass_16 : decode cX6_sideOfClass 16 = .ok (.iload_n 3, 1) := by decide +kernel
theorem dX6_sideOfClass_17 : decode cX6_sideOfClass 17 = .ok (.invokevirtual 69, 3) := by decide +kernel
theorem dX6_sideOfClass_20 : decode cX6_sideOfClass 20 = .ok (.iconst 1, 1) := by decide +kernel
theorem dX6_sideOfClass_21 : decode cX6_sideOfClass 21 = .ok (.if_icmp .ne 21, 3) := by decide +kernel
theorem dX6_sideOfClass_24 : decode cX6_sideOfClass 24 = .ok (.aload_n 0, 1) := by decide +kernel
theorem dX6_sideOfClass_25 : decode cX6_sideOfClass 25 = .ok (.iload_n 3, 1) := by decide +kernel
theorem dX6_sideOfClass_26 : decode cX6_sideOfClass 26 = .ok (.invokevirtual 93, 3) := by decide +kernel
theorem dX6_sideOfClass_29 : decode cX6_sideOfClass 29 = .ok (.iload_n 1, 1) := by decide +kernel
theorem dX6_sideOfClass_30 : decode cX6_sideOfClass 30 = .ok (.if_icmp .ne 12, 3) := by decide +kernel
theorem dX6_sideOfClass_33 : decode cX6_sideOfClass 33 = .ok (.aload_n 0, 1) := by decide +kernel
theorem dX6_sideOfClass_34 : decode cX6_sideOfClass 34 = .ok (.iload_n 3, 1) := by decide +kernel
theorem dX6_sideOfClass_35 : decode cX6_sideOfClass 35 = .ok (.invokevirtual 52, 3) := by decide +kernel
theorem dX6_sideOfClass_38 : decode cX6_sideOfClass 38 = .ok (.getfield 96, 3) := by decide +kernel
theorem dX6_sideOfClass_41 : decode cX6_sideOfClass 41 = .ok (.ireturn, 1) := by decide +kernel
theorem dX6_sideOfClass_42 : decode cX6_sideOfClass 42 = .ok (.iinc 3 1, 3) := by decide +kernel
theorem dX6_sideOfClass_45 : decode cX6_sideOfClass 45 = .ok (.goto (-43), 3) := by decide +kernel
theorem dX6_sideOfClass_48 : decode cX6_sideOfClass 48 = .ok (.iconst (-1), 1) := by decide +kernel
theorem dX6_sideOfClass_49 : decode cX6_sideOfClass 49 = .ok (.ireturn, 1) := by decide +kernel
set_option maxRecDepth 100000 in
theorem t_X6_sideOfClass_2 (G : MG) (hG : (g_l G).stackTraces = false) (d : Nat) (hd : 2 ≤ d)   (σ : MsSt)  : ∀ (n : Nat) (l0 : Nat) (l1 : Int32) (l2 : Int32) (l3 : Int32) (h0 : ms_kd l0 = 7), TrO G mX6_sideOfClass d 0 0 0 0 (ms_ki σ) 2 [(0, .ref l0), (1, .int l1), (2, .int l2), (3, .int l3)] [] σ (f_X6_sideOfClass_2 σ n l0 l1 l2 l3) := by
  intro n
  induction n with
  | zero => exact fun _ _ _ _ _ => tr_none
  | succ n ih =>
    intro l0 l1 l2 l3 h0
    show TrO G mX6_sideOfClass d 0 0 0 0 (ms_ki σ) 2 [(0, .ref l0), (1, .int l1), (2, .int l2), (3, .int l3)] [] σ (if l3 < (ms_i σ l0 4) then if l3 = l2 then (f_X6_sideOfClass_2 σ n) l0 l1 l2 (l3 + 1) else (f_X6_kindOf σ l0 l3).bind fun v1 => if v1 = 1 then (f_X6_classOf σ l0 l3).bind fun v2 => if v2 = l1 then (f_X6_told σ l0 l3).bind fun v3 => some (ms_i σ v3 5) else (f_X6_sideOfClass_2 σ n) l0 l1 l2 (l3 + 1) else (f_X6_sideOfClass_2 σ n) l0 l1 l2 (l3 + 1) else some (-1))
    refine tr_iload_n (i := 3) dX6_sideOfClass_2 rfl ?_
    refine tr_aload_n (i := 0) dX6_sideOfClass_3 rfl ?_
    refine tr_getI 6 h0 fl_X6_35 (by decide +kernel) dX6_sideOfClass_4 ?_
    refine tr_icge (o := none) (tgt := 48) dX6_sideOfClass_7 (by decide) ?_ ?_
    · refine tr_iconst (v := (-1)) dX6_sideOfClass_48 (by decide +kernel) ?_
      exact tr_iret rfl rfl (by decide) (by decide) dX6_sideOfClass_49
    · refine tr_iload_n (i := 3) dX6_sideOfClass_10 rfl ?_
      refine tr_iload_n (i := 2) dX6_sideOfClass_11 rfl ?_
      refine tr_iceq (o := none) (tgt := 42) dX6_sideOfClass_12 (by decide) ?_ ?_
      · refine tr_iinc (k := 3) (v := (l3 + 1)) (lv' := [(0, .ref l0), (1, .int l1), (2, .int l2), (3, .int (l3 + 1))]) [1, 2, 3, 0] dX6_sideOfClass_42 rfl rfl (by decide) rfl ?_
        refine tr_goto (tgt := 2) dX6_sideOfClass_45 (by decide) ?_
        exact (fun y0 y1 y2 y3 g0 => ih y0 y1 y2 y3 g0) l0 l1 l2 (l3 + 1) h0
      · refine tr_aload_n (i := 0) dX6_sideOfClass_15 rfl ?_
        refine tr_iload_n (i := 3) dX6_sideOfClass_16 rfl ?_
        refine tr_c_i (ms_cV (rest := []) (al := [.int l3]) 6 (sp_X6_kindOf G hG (d - 1) (by omega) σ l0 l3 h0) h0 (by decide +kernel) kl_X6_69 fv_X6_kindOf dX6_sideOfClass_17 (show _ = some 1 by decide +kernel) (by omega) (Nat.le_of_ble_eq_true rfl) (by decide) (by decide)) (fun v1 => ?_)
        refine tr_iconst (v := 1) dX6_sideOfClass_20 (by decide +kernel) ?_
        refine tr_icne (o := none) (tgt := 42) dX6_sideOfClass_21 (by decide) ?_ ?_
        · refine tr_iinc (k := 3) (v := (l3 + 1)) (lv' := [(0, .ref l0), (1, .int l1), (2, .int l2), (3, .int (l3 + 1))]) [1, 2, 3, 0] dX6_sideOfClass_42 rfl rfl (by decide) rfl ?_
          refine tr_goto (tgt := 2) dX6_sideOfClass_45 (by decide) ?_
          exact (fun y0 y1 y2 y3 g0 => ih y0 y1 y2 y3 g0) l0 l1 l2 (l3 + 1) h0
        · refine tr_aload_n (i := 0) dX6_sideOfClass_24 rfl ?_
          refine tr_iload_n (i := 3) dX6_sideOfClass_25 rfl ?_
          refine tr_c_i (ms_cV (rest := []) (al := [.int l3]) 6 (sp_X6_classOf G hG (d - 1) (by omega) σ l0 l3 h0) h0 (by decide +kernel) kl_X6_93 fv_X6_classOf dX6_sideOfClass_26 (show _ = some 1 by decide +kernel) (by omega) (Nat.le_of_ble_eq_true rfl) (by decide) (by decide)) (fun v2 => ?_)
          refine tr_iload_n (i := 1) dX6_sideOfClass_29 rfl ?_
          refine tr_icne (o := none) (tgt := 42) dX6_sideOfClass_30 (by decide) ?_ ?_
          · refine tr_iinc (k := 3) (v := (l3 + 1)) (lv' := [(0, .ref l0), (1, .int l1), (2, .int l2), (3, .int (l3 + 1))]) [1, 2, 3, 0] dX6_sideOfClass_42 rfl rfl (by decide) rfl ?_
            refine tr_goto (tgt := 2) dX6_sideOfClass_45 (by decide) ?_
            exact (fun y0 y1 y2 y3 g0 => ih y0 y1 y2 y3 g0) l0 l1 l2 (l3 + 1) h0
          · refine tr_aload_n (i := 0) dX6_sideOfClass_33 rfl ?_
            refine tr_iload_n (i := 3) dX6_sideOfClass_34 rfl ?_
            refine tr_c_a (ms_cV (rest := []) (al := [.int l3]) 6 (sp_X6_told G hG (d - 1) (by omega) σ l0 l3 h0) h0 (by decide +kernel) kl_X6_52 fv_X6_told dX6_sideOfClass_35 (show _ = some 1 by decide +kernel) (by omega) (Nat.le_of_ble_eq_true rfl) (by decide) (by decide)) (fun v3 e_v3 => ?_)
            refine tr_getI 7 (ra_X6_told h0 e_v3) fl_X6_96 (by decide +kernel) dX6_sideOfClass_38 ?_
            exact tr_iret rfl rfl (by decide) (by decide) dX6_sideOfClass_41
set_option maxRecDepth 100000 in
theorem sp_X6_sideOfClass (G : MG) (hG : (g_l G).stackTraces = false) (d : Nat) (hd : 2 ≤ d)   (σ : MsSt) (l0 : Nat) (l1 : Int32) (l2 : Int32) (h0 : ms_kd l0 = 7) : MsSpec G mX6_sideOfClass d 0 0 [.ref l0, .int l1, .int l2] σ (ms_ki σ) (f_X6_sideOfClass σ l0 l1 l2) := by
  refine ms_start (by decide +kernel) rfl rfl (Nat.le_of_ble_eq_true rfl) ?_
  show TrO G mX6_sideOfClass d 0 0 0 0 (ms_ki σ) 0 [(0, .ref l0), (1, .int l1), (2, .int l2)] [] σ (f_X6_sideOfClass_2 σ ms_fuel l0 l1 l2 0)
  refine tr_iconst (v := 0) dX6_sideOfClass_0 (by decide +kernel) ?_
  refine tr_istore_n (lv' := [(0, .ref l0), (1, .int l1), (2, .int l2), (3, .int 0)]) [1, 2, 3, 0] dX6_sideOfClass_1 (by decide) rfl ?_
  exact t_X6_sideOfClass_2 G hG d hd σ ms_fuel l0 l1 l2 0 h0
theorem dX6_mayHaveClass_0 : decode cX6_mayHaveClass 0 = .ok (.aload_n 0, 1) := by decide +kernel
theorem dX6_mayHaveClass_1 : decode cX6_mayHaveClass 1 = .ok (.iload_n 2, 1) := by decide +kernel
theorem dX6_mayHaveClass_2 : decode cX6_mayHaveClass 2 = .ok (.iload_n 1, 1) := by decide +kernel
theorem dX6_mayHaveClass_3 : decode cX6_mayHaveClass 3 = .ok (.invokevirtual 99, 3) := by decide +kernel
theorem dX6_mayHaveClass_6 : decode cX6_mayHaveClass 6 = .ok (.istore_n 3, 1) := by decide +kernel
theorem dX6_mayHaveClass_7 : decode cX6_mayHaveClass 7 = .ok (.iload_n 3, 1) := by decide +kernel
theorem dX6_mayHaveClass_8 : decode cX6_mayHaveClass 8 = .ok (.iconst (-1), 1) := by decide +kernel
theorem dX6_mayHaveClass_9 : decode cX6_mayHaveClass 9 = .ok (.if_icmp .eq 15, 3) := by decide +kernel
theorem dX6_mayHaveClass_12 : decode cX6_mayHaveClass 12 = .ok (.iload_n 3, 1) := by decide +kernel
theorem dX6_mayHaveClass_13 : decode cX6_mayHaveClass 13 = .ok (.aload_n 0, 1) := by decide +kernel
theorem dX6_mayHaveClass_14 : decode cX6_mayHaveClass 14 = .ok (.iload_n 1, 1) := by decide +kernel
theorem dX6_mayHaveClass_15 : decode cX6_mayHaveClass 15 = .ok (.invokevirtual 52, 3) := by decide +kernel
theorem dX6_mayHaveClass_18 : decode cX6_mayHaveClass 18 = .ok (.getfield 96, 3) := by decide +kernel
theorem dX6_mayHaveClass_21 : decode cX6_mayHaveClass 21 = .ok (.if_icmp .ne 7, 3) := by decide +kernel
theorem dX6_mayHaveClass_24 : decode cX6_mayHaveClass 24 = .ok (.iconst 1, 1) := by decide +kernel
theorem dX6_mayHaveClass_25 : decode cX6_mayHaveClass 25 = .ok (.goto 4, 3) := by decide +kernel
theorem dX6_mayHaveClass_28 : decode cX6_mayHaveClass 28 = .ok (.iconst 0, 1) := by decide +kernel
theorem dX6_mayHaveClass_29 : decode cX6_mayHaveClass 29 = .ok (.ireturn, 1) := by decide +kernel
set_option maxRecDepth 100000 in
theorem sp_X6_mayHaveClass (G : MG) (hG : (g_l G).stackTraces = false) (d : Nat) (hd : 3 ≤ d)   (σ : MsSt) (l0 : Nat) (l1 : Int32) (l2 : Int32) (h0 : ms_kd l0 = 7) : MsSpec G mX6_mayHaveClass d 0 0 [.ref l0, .int l1, .int l2] σ (ms_ki σ) (f_X6_mayHaveClass σ l0 l1 l2) := by
  refine ms_start (by decide +kernel) rfl rfl (Nat.le_of_ble_eq_true rfl) ?_
  show TrO G mX6_mayHaveClass d 0 0 0 0 (ms_ki σ) 0 [(0, .ref l0), (1, .int l1), (2, .int l2)] [] σ ((f_X6_sideOfClass σ l0 l2 l1).bind fun v1 => if v1 = (-1) then some 1 else (f_X6_told σ l0 l1).bind fun v2 => if v1 = (ms_i σ v2 5) then some 1 else some 0)
  refine tr_aload_n (i := 0) dX6_mayHaveClass_0 rfl ?_
  refine tr_iload_n (i := 2) dX6_mayHaveClass_1 rfl ?_
  refine tr_iload_n (i := 1) dX6_mayHaveClass_2 rfl ?_
  refine tr_c_i (ms_cV (rest := []) (al := [.int l2, .int l1]) 6 (sp_X6_sideOfClass G hG (d - 1) (by omega) σ l0 l2 l1 h0) h0 (by decide +kernel) kl_X6_99 fv_X6_sideOfClass dX6_mayHaveClass_3 (show _ = some 2 by decide +kernel) (by omega) (Nat.le_of_ble_eq_true rfl) (by decide) (by decide)) (fun v1 => ?_)
  refine tr_istore_n (lv' := [(0, .ref l0), (1, .int l1), (3, .int v1)]) [1, 2, 0] dX6_mayHaveClass_6 (by decide) rfl ?_
  refine tr_iload_n (i := 2) dX6_mayHaveClass_7 rfl ?_
  refine tr_iconst (v := (-1)) dX6_mayHaveClass_8 (by decide +kernel) ?_
  refine tr_iceq (o := none) (tgt := 24) dX6_mayHaveClass_9 (by decide) ?_ ?_
  · refine tr_iconst (v := 1) dX6_mayHaveClass_24 (by decide +kernel) ?_
    refine tr_goto (tgt := 29) dX6_mayHaveClass_25 (by decide) ?_
    exact tr_zret rfl (by decide +kernel) rfl (by decide) (by decide) dX6_mayHaveClass_29
  · refine tr_iload_n (i := 2) dX6_mayHaveClass_12 rfl ?_
    refine tr_aload_n (i := 0) dX6_mayHaveClass_13 rfl ?_
    refine tr_iload_n (i := 1) dX6_mayHaveClass_14 rfl ?_
    refine tr_c_a (ms_cV (rest := [.int v1]) (al := [.int l1]) 6 (sp_X6_told G hG (d - 1) (by omega) σ l0 l1 h0) h0 (by decide +kernel) kl_X6_52 fv_X6_told dX6_mayHaveClass_15 (show _ = some 1 by decide +kernel) (by omega) (Nat.le_of_ble_eq_true rfl) (by decide) (by decide)) (fun v2 e_v2 => ?_)
    refine tr_getI 7 (ra_X6_told h0 e_v2) fl_X6_96 (by decide +kernel) dX6_mayHaveClass_18 ?_
    refine tr_icne (o := none) (tgt := 28) dX6_mayHaveClass_21 (by decide) ?_ ?_
    · refine tr_iconst (v := 0) dX6_mayHaveClass_28 (by decide +kernel) ?_
      exact tr_zret rfl (by decide +kernel) rfl (by decide) (by decide) dX6_mayHaveClass_29
    · refine tr_iconst (v := 1) dX6_mayHaveClass_24 (by decide +kernel) ?_
      refine tr_goto (tgt := 29) dX6_mayHaveClass_25 (by decide) ?_
      exact tr_zret rfl (by decide +kernel) rfl (by decide) (by decide) dX6_mayHaveClass_29
theorem dX6_takeOver_0 : decode cX6_takeOver 0 = .ok (.iconst 0, 1) := by decide +kernel
theorem dX6_takeOver_1 : decode cX6_takeOver 1 = .ok (.istore_n 2, 1) := by decide +kernel
theorem dX6_takeOver_2 : decode cX6_takeOver 2 = .ok (.iload_n 2, 1) := by decide +kernel
theorem dX6_takeOver_3 : decode cX6_takeOver 3 = .ok (.aload_n 1, 1) := by decide +kernel
theorem dX6_takeOver_4 : decode cX6_takeOver 4 = .ok (.getfield 35, 3) := by decide +kernel
theorem dX6_takeOver_7 : decode cX6_takeOver 7 = .ok (.if_icmp .ge 22, 3) := by decide +kernel
theorem dX6_takeOver_10 : decode cX6_takeOver 10 = .ok (.aload_n 0, 1) := by decide +kernel
theorem dX6_takeOver_11 : decode cX6_takeOver 11 = .ok (.iload_n 2, 1) := by decide +kernel
theorem dX6_takeOver_12 : decode cX6_takeOver 12 = .ok (.invokevirtual 52, 3) := by decide +kernel
theorem dX6_takeOver_15 : decode cX6_takeOver 15 = .ok (.aload_n 1, 1) := by decide +kernel
theorem dX6_takeOver_16 : decode cX6_takeOver 16 = .ok (.iload_n 2, 1) := by decide +kernel
theorem dX6_takeOver_17 : decode cX6_takeOver 17 = .ok (.invokevirtual 52, 3) := by decide +kernel
theorem dX6_takeOver_20 : decode cX6_takeOver 20 = .ok (.invokevirtual 108, 3) := by decide +kernel
theorem dX6_takeOver_23 : decode cX6_takeOver 23 = .ok (.iinc 2 1, 3) := by decide +kernel
theorem dX6_takeOver_26 : decode cX6_takeOver 26 = .ok (.goto (-24), 3) := by decide +kernel
theorem dX6_takeOver_29 : decode cX6_takeOver 29 = .ok (.iconst 0, 1) := by decide +kernel
theorem dX6_takeOver_30 : decode cX6_takeOver 30 = .ok (.istore_n 2, 1) := by decide +kernel
theorem dX6_takeOver_31 : decode cX6_takeOver 31 = .ok (.iload_n 2, 1) := by decide +kernel
theorem dX6_takeOver_32 : decode cX6_takeOver 32 = .ok (.aload_n 0, 1) := by decide +kernel
theorem dX6_takeOver_33 : decode cX6_takeOver 33 = .ok (.getfield 20, 3) := by decide +kernel
theorem dX6_takeOver_36 : decode cX6_takeOver 36 = .ok (.arraylength, 1) := by decide +kernel
theorem dX6_takeOver_37 : decode cX6_takeOver 37 = .ok (.if_icmp .ge 22, 3) := by decide +kernel
theorem dX6_takeOver_40 : decode cX6_takeOver 40 = .ok (.aload_n 0, 1) := by decide +kernel
theorem dX6_takeOver_41 : decode cX6_takeOver 41 = .ok (.iload_n 2, 1) := by decide +kernel
theorem dX6_takeOver_42 : decode cX6_takeOver 42 = .ok (.invokevirtual 45, 3) := by decide +kernel
theorem dX6_takeOver_45 : decode cX6_takeOver 45 = .ok (.aload_n 1, 1) := by decide +kernel
theorem dX6_takeOver_46 : decode cX6_takeOver 46 = .ok (.iload_n 2, 1) := by decide +kernel
theorem dX6_takeOver_47 : decode cX6_takeOver 47 = .ok (.invokevirtual 45, 3) := by decide +kernel
theorem dX6_takeOver_50 : decode cX6_takeOver 50 = .ok (.invokevirtual 112, 3) := by decide +kernel
theorem dX6_takeOver_53 : decode cX6_takeOver 53 = .ok (.iinc 2 1, 3) := by decide +kernel
theorem dX6_takeOver_56 : decode cX6_takeOver 56 = .ok (.goto (-25), 3) := by decide +kernel
theorem dX6_takeOver_59 : decode cX6_takeOver 59 = .ok (.aload_n 0, 1) := by decide +kernel
theorem dX6_takeOver_60 : decode cX6_takeOver 60 = .ok (.aload_n 1, 1) := by decide +kernel
theorem dX6_takeOver_61 : decode cX6_takeOver 61 = .ok (.getfield 35, 3) := by decide +kernel
theorem dX6_takeOver_64 : decode cX6_takeOver 64 = .ok (.putfield 35, 3) := by decide +kernel
theorem dX6_takeOver_67 : decode cX6_takeOver 67 = .ok (.aload_n 0, 1) := by decide +kernel
theorem dX6_takeOver_68 : decode cX6_takeOver 68 = .ok (.aload_n 1, 1) := by decide +kernel
theorem dX6_takeOver_69 : decode cX6_takeOver 69 = .ok (.getfield 39, 3) := by decide +kernel
theorem dX6_takeOver_72 : decode cX6_takeOver 72 = .ok (.putfield 39, 3) := by decide +kernel
theorem dX6_takeOver_75 : decode cX6_takeOver 75 = .ok (.aload_n 0, 1) := by decide +kernel
theorem dX6_takeOver_76 : decode cX6_takeOver 76 = .ok (.aload_n 1, 1) := by decide +kernel
theorem dX6_takeOver_77 : decode cX6_takeOver 77 = .ok (.getfield 42, 3) := by decide +kernel
theorem dX6_takeOver_80 : decode cX6_takeOver 80 = .ok (.putfield 42, 3) := by decide +kernel
theorem dX6_takeOver_83 : decode cX6_takeOver 83 = .ok (.return_, 1) := by decide +kernel
set_option maxRecDepth 100000 in
theorem t_X6_takeOver_31 (G : MG) (hG : (g_l G).stackTraces = false) (d : Nat) (hd : 4 ≤ d)    : ∀ (n : Nat) (σ : MsSt) (l0 : Nat) (l1 : Nat) (l2 : Int32) (h0 : ms_kd l0 = 7) (h1 : ms_kd l1 = 7), TrO G mX6_takeOver d 0 0 0 0 ms_wv 31 [(0, .ref l0), (1, .ref l1), (2, .int l2)] [] σ (f_X6_takeOver_31 n σ l0 l1 l2) := by
  intro n
  induction n with
  | zero => exact fun _ _ _ _ _ _ => tr_none
  | succ n ih =>
    intro σ l0 l1 l2 h0 h1
    show TrO G mX6_takeOver d 0 0 0 0 ms_wv 31 [(0, .ref l0), (1, .ref l1), (2, .int l2)] [] σ (if l2 < (Int32.ofNat (ms_ln (ms_rf l0 1))) then (f_X6_lineAt σ l0 l2).bind fun v4 => (f_X6_lineAt σ l1 l2).bind fun v5 => (f_X5_takeOver σ v4 v5).bind fun s6 => (f_X6_takeOver_31 n) s6 l0 l1 (l2 + 1) else ms_nm (ms_si σ l0 4 (ms_i σ l1 4)) fun s1 => ms_nm (ms_si s1 l0 5 (ms_i s1 l1 5)) fun s2 => ms_nm (ms_si s2 l0 6 (ms_i s2 l1 6)) fun s3 => some s3)
    refine tr_iload_n (i := 2) dX6_takeOver_31 rfl ?_
    refine tr_aload_n (i := 0) dX6_takeOver_32 rfl ?_
    refine tr_getR 6 h0 fl_X6_20 (by decide +kernel) dX6_takeOver_33 ?_
    refine tr_len 5 (rk_6_1 h0) (by decide) dX6_takeOver_36 ?_
    refine tr_icge (o := none) (tgt := 59) dX6_takeOver_37 (by decide) ?_ ?_
    · refine tr_aload_n (i := 0) dX6_takeOver_59 rfl ?_
      refine tr_aload_n (i := 1) dX6_takeOver_60 rfl ?_
      refine tr_getI 6 h1 fl_X6_35 (by decide +kernel) dX6_takeOver_61 ?_
      refine tr_putI 6 h0 fl_X6_35 (by decide +kernel) dX6_takeOver_64 ?_
      refine ms_ltS (fun s1 => ?_)
      refine tr_aload_n (i := 0) dX6_takeOver_67 rfl ?_
      refine tr_aload_n (i := 1) dX6_takeOver_68 rfl ?_
      refine tr_getI 6 h1 fl_X6_39 (by decide +kernel) dX6_takeOver_69 ?_
      refine tr_putI 6 h0 fl_X6_39 (by decide +kernel) dX6_takeOver_72 ?_
      refine ms_ltS (fun s2 => ?_)
      refine tr_aload_n (i := 0) dX6_takeOver_75 rfl ?_
      refine tr_aload_n (i := 1) dX6_takeOver_76 rfl ?_
      refine tr_getI 6 h1 fl_X6_42 (by decide +kernel) dX6_takeOver_77 ?_
      refine tr_putI 6 h0 fl_X6_42 (by decide +kernel) dX6_takeOver_80 ?_
      refine ms_ltS (fun s3 => ?_)
      exact tr_vret rfl rfl (by decide) (by decide) dX6_takeOver_83
    · refine tr_aload_n (i := 0) dX6_takeOver_40 rfl ?_
      refine tr_iload_n (i := 2) dX6_takeOver_41 rfl ?_
      refine tr_c_a (ms_cV (rest := []) (al := [.int l2]) 6 (sp_X6_lineAt G hG (d - 1) (by omega) σ l0 l2 h0) h0 (by decide +kernel) kl_X6_45 fv_X6_lineAt dX6_takeOver_42 (show _ = some 1 by decide +kernel) (by omega) (Nat.le_of_ble_eq_true rfl) (by decide) (by decide)) (fun v4 e_v4 => ?_)
      refine tr_aload_n (i := 1) dX6_takeOver_45 rfl ?_
      refine tr_iload_n (i := 2) dX6_takeOver_46 rfl ?_
      refine tr_c_a (ms_cV (rest := [.ref v4]) (al := [.int l2]) 6 (sp_X6_lineAt G hG (d - 1) (by omega) σ l1 l2 h1) h1 (by decide +kernel) kl_X6_45 fv_X6_lineAt dX6_takeOver_47 (show _ = some 1 by decide +kernel) (by omega) (Nat.le_of_ble_eq_true rfl) (by decide) (by decide)) (fun v5 e_v5 => ?_)
      refine tr_c_wv (ms_cV (rest := []) (al := [.ref v5]) 5 (sp_X5_takeOver G hG (d - 1) (by omega) σ v4 v5 (ra_X6_lineAt h0 e_v4) (ra_X6_lineAt h1 e_v5)) (ra_X6_lineAt h0 e_v4) (by decide +kernel) kl_X6_112 fv_X5_takeOver dX6_takeOver_50 (show _ = some 1 by decide +kernel) (by omega) (Nat.le_of_ble_eq_true rfl) (by decide) (by decide)) (fun s6 => ?_)
      refine tr_iinc (k := 2) (v := (l2 + 1)) (lv' := [(0, .ref l0), (1, .ref l1), (2, .int (l2 + 1))]) [1, 2, 0] dX6_takeOver_53 rfl rfl (by decide) rfl ?_
      refine tr_goto (tgt := 31) dX6_takeOver_56 (by decide) ?_
      exact (fun s y0 y1 y2 g0 g1 => ih s y0 y1 y2 g0 g1) s6 l0 l1 (l2 + 1) h0 h1
set_option maxRecDepth 100000 in
theorem t_X6_takeOver_2 (G : MG) (hG : (g_l G).stackTraces = false) (d : Nat) (hd : 4 ≤ d)    : ∀ (n : Nat) (σ : MsSt) (l0 : Nat) (l1 : Nat) (l2 : Int32) (h0 : ms_kd l0 = 7) (h1 : ms_kd l1 = 7), TrO G mX6_takeOver d 0 0 0 0 ms_wv 2 [(0, .ref l0), (1, .ref l1), (2, .int l2)] [] σ (f_X6_takeOver_2 n σ l0 l1 l2) := by
  intro n
  induction n with
  | zero => exact fun _ _ _ _ _ _ => tr_none
  | succ n ih =>
    intro σ l0 l1 l2 h0 h1
    show TrO G mX6_takeOver d 0 0 0 0 ms_wv 2 [(0, .ref l0), (1, .ref l1), (2, .int l2)] [] σ (if l2 < (ms_i σ l1 4) then (f_X6_told σ l0 l2).bind fun v7 => (f_X6_told σ l1 l2).bind fun v8 => (f_X7_takeOver σ v7 v8).bind fun s9 => (f_X6_takeOver_2 n) s9 l0 l1 (l2 + 1) else f_X6_takeOver_31 ms_fuel σ l0 l1 0)
    refine tr_iload_n (i := 2) dX6_takeOver_2 rfl ?_
    refine tr_aload_n (i := 1) dX6_takeOver_3 rfl ?_
    refine tr_getI 6 h1 fl_X6_35 (by decide +kernel) dX6_takeOver_4 ?_
    refine tr_icge (o := none) (tgt := 29) dX6_takeOver_7 (by decide) ?_ ?_
    · refine tr_iconst (v := 0) dX6_takeOver_29 (by decide +kernel) ?_
      refine tr_istore_n (lv' := [(0, .ref l0), (1, .ref l1), (2, .int 0)]) [1, 2, 0] dX6_takeOver_30 (by decide) rfl ?_
      exact t_X6_takeOver_31 G hG d hd ms_fuel σ l0 l1 0 h0 h1
    · refine tr_aload_n (i := 0) dX6_takeOver_10 rfl ?_
      refine tr_iload_n (i := 2) dX6_takeOver_11 rfl ?_
      refine tr_c_a (ms_cV (rest := []) (al := [.int l2]) 6 (sp_X6_told G hG (d - 1) (by omega) σ l0 l2 h0) h0 (by decide +kernel) kl_X6_52 fv_X6_told dX6_takeOver_12 (show _ = some 1 by decide +kernel) (by omega) (Nat.le_of_ble_eq_true rfl) (by decide) (by decide)) (fun v7 e_v7 => ?_)
      refine tr_aload_n (i := 1) dX6_takeOver_15 rfl ?_
      refine tr_iload_n (i := 2) dX6_takeOver_16 rfl ?_
      refine tr_c_a (ms_cV (rest := [.ref v7]) (al := [.int l2]) 6 (sp_X6_told G hG (d - 1) (by omega) σ l1 l2 h1) h1 (by decide +kernel) kl_X6_52 fv_X6_told dX6_takeOver_17 (show _ = some 1 by decide +kernel) (by omega) (Nat.le_of_ble_eq_true rfl) (by decide) (by decide)) (fun v8 e_v8 => ?_)
      refine tr_c_wv (ms_cV (rest := []) (al := [.ref v8]) 7 (sp_X7_takeOver G hG (d - 1) (by omega) σ v7 v8 (ra_X6_told h0 e_v7) (ra_X6_told h1 e_v8)) (ra_X6_told h0 e_v7) (by decide +kernel) kl_X6_108 fv_X7_takeOver dX6_takeOver_20 (show _ = some 1 by decide +kernel) (by omega) (Nat.le_of_ble_eq_true rfl) (by decide) (by decide)) (fun s9 => ?_)
      refine tr_iinc (k := 2) (v := (l2 + 1)) (lv' := [(0, .ref l0), (1, .ref l1), (2, .int (l2 + 1))]) [1, 2, 0] dX6_takeOver_23 rfl rfl (by decide) rfl ?_
      refine tr_goto (tgt := 2) dX6_takeOver_26 (by decide) ?_
      exact (fun s y0 y1 y2 g0 g1 => ih s y0 y1 y2 g0 g1) s9 l0 l1 (l2 + 1) h0 h1
set_option maxRecDepth 100000 in
theorem sp_X6_takeOver (G : MG) (hG : (g_l G).stackTraces = false) (d : Nat) (hd : 4 ≤ d)   (σ : MsSt) (l0 : Nat) (l1 : Nat) (h0 : ms_kd l0 = 7) (h1 : ms_kd l1 = 7) : MsSpec G mX6_takeOver d 0 0 [.ref l0, .ref l1] σ ms_wv (f_X6_takeOver σ l0 l1) := by
  refine ms_start (by decide +kernel) rfl rfl (Nat.le_of_ble_eq_true rfl) ?_
  show TrO G mX6_takeOver d 0 0 0 0 ms_wv 0 [(0, .ref l0), (1, .ref l1)] [] σ (f_X6_takeOver_2 ms_fuel σ l0 l1 0)
  refine tr_iconst (v := 0) dX6_takeOver_0 (by decide +kernel) ?_
  refine tr_istore_n (lv' := [(0, .ref l0), (1, .ref l1), (2, .int 0)]) [1, 2, 0] dX6_takeOver_1 (by decide) rfl ?_
  exact t_X6_takeOver_2 G hG d hd ms_fuel σ l0 l1 0 h0 h1
