/-! X12: the bytecode does what the functions say (by program: wip/whole/gen) -/
theorem dX12_crowns_0 : decode cX12_crowns 0 = .ok (.iconst 0, 1) := by decide +kernel
theorem dX12_crowns_1 : decode cX12_crowns 1 = .ok (.istore_n 1, 1) := by decide +kernel
theorem dX12_crowns_2 : decode cX12_crowns 2 = .ok (.iconst 0, 1) := by decide +kernel
theorem dX12_crowns_3 : decode cX12_crowns 3 = .ok (.istore_n 2, 1) := by decide +kernel
theorem dX12_crowns_4 : decode cX12_crowns 4 = .ok (.iload_n 2, 1) := by decide +kernel
theorem dX12_crowns_5 : decode cX12_crowns 5 = .ok (.aload_n 0, 1) := by decide +kernel
theorem dX12_crowns_6 : decode cX12_crowns 6 = .ok (.getfield 168, 3) := by decide +kernel
theorem dX12_crowns_9 : decode cX12_crowns 9 = .ok (.if_icmp .ge 44, 3) := by decide +kernel
theorem dX12_crowns_12 : decode cX12_crowns 12 = .ok (.aload_n 0, 1) := by decide +kernel
theorem dX12_crowns_13 : decode cX12_crowns 13 = .ok (.iload_n 2, 1) := by decide +kernel
theorem dX12_crowns_14 : decode cX12_crowns 14 = .ok (.aload_n 0, 1) := by decide +kernel
theorem dX12_crowns_15 : decode cX12_crowns 15 = .ok (.getfield 46, 3) := by decide +kernel
theorem dX12_crowns_18 : decode cX12_crowns 18 = .ok (.invokevirtual 215, 3) := by decide +kernel
theorem dX12_crowns_21 : decode cX12_crowns 21 = .ok (.iload_n 2, 1) := by decide +kernel
theorem dX12_crowns_22 : decode cX12_crowns 22 = .ok (.ifCond .ne 13, 3) := by decide +kernel
theorem dX12_crowns_25 : decode cX12_crowns 25 = .ok (.aload_n 0, 1) := by decide +kernel
theorem dX12_crowns_26 : decode cX12_crowns 26 = .ok (.getfield 46, 3) := by decide +kernel
theorem dX12_crowns_29 : decode cX12_crowns 29 = .ok (.getfield 198, 3) := by decide +kernel
theorem dX12_crowns_32 : decode cX12_crowns 32 = .ok (.goto 14, 3) := by decide +kernel
theorem dX12_crowns_35 : decode cX12_crowns 35 = .ok (.iload_n 1, 1) := by decide +kernel
theorem dX12_crowns_36 : decode cX12_crowns 36 = .ok (.aload_n 0, 1) := by decide +kernel
theorem dX12_crowns_37 : decode cX12_crowns 37 = .ok (.getfield 46, 3) := by decide +kernel
theorem dX12_crowns_40 : decode cX12_crowns 40 = .ok (.getfield 198, 3) := by decide +kernel
theorem dX12_crowns_43 : decode cX12_crowns 43 = .ok (.invokestatic 212, 3) := by decide +kernel
theorem dX12_crowns_46 : decode cX12_crowns 46 = .ok (.istore_n 1, 1) := by decide +kernel
theorem dX12_crowns_47 : decode cX12_crowns 47 = .ok (.iinc 2 1, 3) := by decide +kernel
theorem dX12_crowns_50 : decode cX12_crowns 50 = .ok (.goto (-46), 3) := by decide +kernel
theorem dX12_crowns_53 : decode cX12_crowns 53 = .ok (.iload_n 1, 1) := by decide +kernel
theorem dX12_crowns_54 : decode cX12_crowns 54 = .ok (.ireturn, 1) := by decide +kernel
set_option maxRecDepth 100000 in
theorem t_X12_crowns_4 (G : MG) (hG : (g_l G).stackTraces = false) (d : Nat) (hd : 7 ≤ d)    : ∀ (n : Nat) (σ : MsSt) (l0 : Nat) (l1 : Int32) (l2 : Int32) (h0 : ms_kd l0 = 13), TrO G mX12_crowns d 0 0 0 0 ms_wi 4 [(0, .ref l0), (1, .int l1), (2, .int l2)] [] σ (f_X12_crowns_4 n σ l0 l1 l2) := by
  intro n
  induction n with
  | zero => exact fun _ _ _ _ _ => tr_none
  | succ n ih =>
    intro σ l0 l1 l2 h0
    show TrO G mX12_crowns d 0 0 0 0 ms_wi 4 [(0, .ref l0), (1, .int l1), (2, .int l2)] [] σ (if l2 < (ms_i σ l0 17) then (f_X12_layBoxes σ l0 l2 (ms_rf l0 18)).bind fun s1 => if l2 = 0 then (f_X12_crowns_4 n) s1 l0 (ms_i s1 (ms_rf l0 18) 4) (l2 + 1) else (f_X12_crowns_4 n) s1 l0 (if l1 < (ms_i s1 (ms_rf l0 18) 4) then (ms_i s1 (ms_rf l0 18) 4) else l1) (l2 + 1) else some (l1, σ))
    refine tr_iload_n (i := 2) dX12_crowns_4 rfl ?_
    refine tr_aload_n (i := 0) dX12_crowns_5 rfl ?_
    refine tr_getI 12 h0 fl_X12_168 (by decide +kernel) dX12_crowns_6 ?_
    refine tr_icge (o := none) (tgt := 53) dX12_crowns_9 (by decide) ?_ ?_
    · refine tr_iload_n (i := 1) dX12_crowns_53 rfl ?_
      exact tr_iret rfl rfl (by decide) (by decide) dX12_crowns_54
    · refine tr_aload_n (i := 0) dX12_crowns_12 rfl ?_
      refine tr_iload_n (i := 2) dX12_crowns_13 rfl ?_
      refine tr_aload_n (i := 0) dX12_crowns_14 rfl ?_
      refine tr_getR 12 h0 fl_X12_46 (by decide +kernel) dX12_crowns_15 ?_
      refine tr_c_wv (ms_cV (rest := []) (al := [.int l2, .ref (ms_rf l0 18)]) 12 (sp_X12_layBoxes G hG (d - 1) (by omega) σ l0 l2 (ms_rf l0 18) h0 (rk_12_18 h0)) h0 (by decide +kernel) kl_X12_215 fv_X12_layBoxes dX12_crowns_18 (show _ = some 2 by decide +kernel) (by omega) (Nat.le_of_ble_eq_true rfl) (by decide) (by decide)) (fun s1 => ?_)
      refine tr_iload_n (i := 2) dX12_crowns_21 rfl ?_
      refine tr_ifne (o := none) (tgt := 35) dX12_crowns_22 (by decide) ?_ ?_
      · refine tr_iload_n (i := 1) dX12_crowns_35 rfl ?_
        refine tr_aload_n (i := 0) dX12_crowns_36 rfl ?_
        refine tr_getR 12 h0 fl_X12_46 (by decide +kernel) dX12_crowns_37 ?_
        refine tr_getI 11 (rk_12_18 h0) fl_X12_198 (by decide +kernel) dX12_crowns_40 ?_
        refine tr_mmax (List.mem_of_getElem? (i := 1918) (by decide +kernel)) (List.mem_of_getElem? (i := 234) (by decide +kernel)) (List.mem_of_getElem? (i := 144) (by decide +kernel)) (List.mem_of_getElem? (i := 235) (by decide +kernel)) (by omega) (Nat.le_of_ble_eq_true rfl) (by decide) (by decide) dX12_crowns_43 ?_
        refine tr_istore_n (lv' := [(0, .ref l0), (1, .int (if l1 < (ms_i s1 (ms_rf l0 18) 4) then (ms_i s1 (ms_rf l0 18) 4) else l1)), (2, .int l2)]) [1, 0, 2] dX12_crowns_46 (by decide) rfl ?_
        refine tr_iinc (k := 2) (v := (l2 + 1)) (lv' := [(0, .ref l0), (1, .int (if l1 < (ms_i s1 (ms_rf l0 18) 4) then (ms_i s1 (ms_rf l0 18) 4) else l1)), (2, .int (l2 + 1))]) [1, 2, 0] dX12_crowns_47 rfl rfl (by decide) rfl ?_
        refine tr_goto (tgt := 4) dX12_crowns_50 (by decide) ?_
        exact (fun s y0 y1 y2 g0 => ih s y0 y1 y2 g0) s1 l0 (if l1 < (ms_i s1 (ms_rf l0 18) 4) then (ms_i s1 (ms_rf l0 18) 4) else l1) (l2 + 1) h0
      · refine tr_aload_n (i := 0) dX12_crowns_25 rfl ?_
        refine tr_getR 12 h0 fl_X12_46 (by decide +kernel) dX12_crowns_26 ?_
        refine tr_getI 11 (rk_12_18 h0) fl_X12_198 (by decide +kernel) dX12_crowns_29 ?_
        refine tr_goto (tgt := 46) dX12_crowns_32 (by decide) ?_
        refine tr_istore_n (lv' := [(0, .ref l0), (1, .int (ms_i s1 (ms_rf l0 18) 4)), (2, .int l2)]) [1, 0, 2] dX12_crowns_46 (by decide) rfl ?_
        refine tr_iinc (k := 2) (v := (l2 + 1)) (lv' := [(0, .ref l0), (1, .int (ms_i s1 (ms_rf l0 18) 4)), (2, .int (l2 + 1))]) [1, 2, 0] dX12_crowns_47 rfl rfl (by decide) rfl ?_
        refine tr_goto (tgt := 4) dX12_crowns_50 (by decide) ?_
        exact (fun s y0 y1 y2 g0 => ih s y0 y1 y2 g0) s1 l0 (ms_i s1 (ms_rf l0 18) 4) (l2 + 1) h0
set_option maxRecDepth 100000 in
theorem sp_X12_crowns (G : MG) (hG : (g_l G).stackTraces = false) (d : Nat) (hd : 7 ≤ d)   (σ : MsSt) (l0 : Nat) (h0 : ms_kd l0 = 13) : MsSpec G mX12_crowns d 0 0 [.ref l0] σ ms_wi (f_X12_crowns σ l0) := by
  refine ms_start (by decide +kernel) rfl rfl (Nat.le_of_ble_eq_true rfl) ?_
  show TrO G mX12_crowns d 0 0 0 0 ms_wi 0 [(0, .ref l0)] [] σ (f_X12_crowns_4 ms_fuel σ l0 0 0)
  refine tr_iconst (v := 0) dX12_crowns_0 (by decide +kernel) ?_
  refine tr_istore_n (lv' := [(0, .ref l0), (1, .int 0)]) [1, 0] dX12_crowns_1 (by decide) rfl ?_
  refine tr_iconst (v := 0) dX12_crowns_2 (by decide +kernel) ?_
  refine tr_istore_n (lv' := [(0, .ref l0), (1, .int 0), (2, .int 0)]) [1, 2, 0] dX12_crowns_3 (by decide) rfl ?_
  exact t_X12_crowns_4 G hG d hd ms_fuel σ l0 0 0 h0
theorem dX12_feet_0 : decode cX12_feet 0 = .ok (.iconst 0, 1) := by decide +kernel
theorem dX12_feet_1 : decode cX12_feet 1 = .ok (.istore_n 1, 1) := by decide +kernel
theorem dX12_feet_2 : decode cX12_feet 2 = .ok (.iconst 0, 1) := by decide +kernel
theorem dX12_feet_3 : decode cX12_feet 3 = .ok (.istore_n 2, 1) := by decide +kernel
theorem dX12_feet_4 : decode cX12_feet 4 = .ok (.iload_n 2, 1) := by decide +kernel
theorem dX12_feet_5 : decode cX12_feet 5 = .ok (.aload_n 0, 1) := by decide +kernel
theorem dX12_feet_6 : decode cX12_feet 6 = .ok (.getfield 168, 3) := by decide +kernel
theorem dX12_feet_9 : decode cX12_feet 9 = .ok (.if_icmp .ge 30, 3) := by decide +kernel
theorem dX12_feet_12 : decode cX12_feet 12 = .ok (.aload_n 0, 1) := by decide +kernel
theorem dX12_feet_13 : decode cX12_feet 13 = .ok (.iload_n 2, 1) := by decide +kernel
theorem dX12_feet_14 : decode cX12_feet 14 = .ok (.aload_n 0, 1) := by decide +kernel
theorem dX12_feet_15 : decode cX12_feet 15 = .ok (.getfield 46, 3) := by decide +kernel
theorem dX12_feet_18 : decode cX12_feet 18 = .ok (.invokevirtual 215, 3) := by decide +kernel
theorem dX12_feet_21 : decode cX12_feet 21 = .ok (.iload_n 1, 1) := by decide +kernel
theorem dX12_feet_22 : decode cX12_feet 22 = .ok (.aload_n 0, 1) := by decide +kernel
theorem dX12_feet_23 : decode cX12_feet 23 = .ok (.getfield 46, 3) := by decide +kernel
theorem dX12_feet_26 : decode cX12_feet 26 = .ok (.getfield 201, 3) := by decide +kernel
theorem dX12_feet_29 : decode cX12_feet 29 = .ok (.invokestatic 207, 3) := by decide +kernel
theorem dX12_feet_32 : decode cX12_feet 32 = .ok (.istore_n 1, 1) := by decide +kernel
theorem dX12_feet_33 : decode cX12_feet 33 = .ok (.iinc 2 1, 3) := by decide +kernel
theorem dX12_feet_36 : decode cX12_feet 36 = .ok (.goto (-32), 3) := by decide +kernel
theorem dX12_feet_39 : decode cX12_feet 39 = .ok (.iload_n 1, 1) := by decide +kernel
theorem dX12_feet_40 : decode cX12_feet 40 = .ok (.ireturn, 1) := by decide +kernel
set_option maxRecDepth 100000 in
theorem t_X12_feet_4 (G : MG) (hG : (g_l G).stackTraces = false) (d : Nat) (hd : 7 ≤ d)    : ∀ (n : Nat) (σ : MsSt) (l0 : Nat) (l1 : Int32) (l2 : Int32) (h0 : ms_kd l0 = 13), TrO G mX12_feet d 0 0 0 0 ms_wi 4 [(0, .ref l0), (1, .int l1), (2, .int l2)] [] σ (f_X12_feet_4 n σ l0 l1 l2) := by
  intro n
  induction n with
  | zero => exact fun _ _ _ _ _ => tr_none
  | succ n ih =>
    intro σ l0 l1 l2 h0
    show TrO G mX12_feet d 0 0 0 0 ms_wi 4 [(0, .ref l0), (1, .int l1), (2, .int l2)] [] σ (if l2 < (ms_i σ l0 17) then (f_X12_layBoxes σ l0 l2 (ms_rf l0 18)).bind fun s1 => (f_X12_feet_4 n) s1 l0 (if (ms_i s1 (ms_rf l0 18) 5) < l1 then (ms_i s1 (ms_rf l0 18) 5) else l1) (l2 + 1) else some (l1, σ))
    refine tr_iload_n (i := 2) dX12_feet_4 rfl ?_
    refine tr_aload_n (i := 0) dX12_feet_5 rfl ?_
    refine tr_getI 12 h0 fl_X12_168 (by decide +kernel) dX12_feet_6 ?_
    refine tr_icge (o := none) (tgt := 39) dX12_feet_9 (by decide) ?_ ?_
    · refine tr_iload_n (i := 1) dX12_feet_39 rfl ?_
      exact tr_iret rfl rfl (by decide) (by decide) dX12_feet_40
    · refine tr_aload_n (i := 0) dX12_feet_12 rfl ?_
      refine tr_iload_n (i := 2) dX12_feet_13 rfl ?_
      refine tr_aload_n (i := 0) dX12_feet_14 rfl ?_
      refine tr_getR 12 h0 fl_X12_46 (by decide +kernel) dX12_feet_15 ?_
      refine tr_c_wv (ms_cV (rest := []) (al := [.int l2, .ref (ms_rf l0 18)]) 12 (sp_X12_layBoxes G hG (d - 1) (by omega) σ l0 l2 (ms_rf l0 18) h0 (rk_12_18 h0)) h0 (by decide +kernel) kl_X12_215 fv_X12_layBoxes dX12_feet_18 (show _ = some 2 by decide +kernel) (by omega) (Nat.le_of_ble_eq_true rfl) (by decide) (by decide)) (fun s1 => ?_)
      refine tr_iload_n (i := 1) dX12_feet_21 rfl ?_
      refine tr_aload_n (i := 0) dX12_feet_22 rfl ?_
      refine tr_getR 12 h0 fl_X12_46 (by decide +kernel) dX12_feet_23 ?_
      refine tr_getI 11 (rk_12_18 h0) fl_X12_201 (by decide +kernel) dX12_feet_26 ?_
      refine tr_mmin (List.mem_of_getElem? (i := 1917) (by decide +kernel)) (List.mem_of_getElem? (i := 786) (by decide +kernel)) (List.mem_of_getElem? (i := 144) (by decide +kernel)) (List.mem_of_getElem? (i := 787) (by decide +kernel)) (by omega) (Nat.le_of_ble_eq_true rfl) (by decide) (by decide) dX12_feet_29 ?_
      refine tr_istore_n (lv' := [(0, .ref l0), (1, .int (if (ms_i s1 (ms_rf l0 18) 5) < l1 then (ms_i s1 (ms_rf l0 18) 5) else l1)), (2, .int l2)]) [1, 0, 2] dX12_feet_32 (by decide) rfl ?_
      refine tr_iinc (k := 2) (v := (l2 + 1)) (lv' := [(0, .ref l0), (1, .int (if (ms_i s1 (ms_rf l0 18) 5) < l1 then (ms_i s1 (ms_rf l0 18) 5) else l1)), (2, .int (l2 + 1))]) [1, 2, 0] dX12_feet_33 rfl rfl (by decide) rfl ?_
      refine tr_goto (tgt := 4) dX12_feet_36 (by decide) ?_
      exact (fun s y0 y1 y2 g0 => ih s y0 y1 y2 g0) s1 l0 (if (ms_i s1 (ms_rf l0 18) 5) < l1 then (ms_i s1 (ms_rf l0 18) 5) else l1) (l2 + 1) h0
set_option maxRecDepth 100000 in
theorem sp_X12_feet (G : MG) (hG : (g_l G).stackTraces = false) (d : Nat) (hd : 7 ≤ d)   (σ : MsSt) (l0 : Nat) (h0 : ms_kd l0 = 13) : MsSpec G mX12_feet d 0 0 [.ref l0] σ ms_wi (f_X12_feet σ l0) := by
  refine ms_start (by decide +kernel) rfl rfl (Nat.le_of_ble_eq_true rfl) ?_
  show TrO G mX12_feet d 0 0 0 0 ms_wi 0 [(0, .ref l0)] [] σ (f_X12_feet_4 ms_fuel σ l0 0 0)
  refine tr_iconst (v := 0) dX12_feet_0 (by decide +kernel) ?_
  refine tr_istore_n (lv' := [(0, .ref l0), (1, .int 0)]) [1, 0] dX12_feet_1 (by decide) rfl ?_
  refine tr_iconst (v := 0) dX12_feet_2 (by decide +kernel) ?_
  refine tr_istore_n (lv' := [(0, .ref l0), (1, .int 0), (2, .int 0)]) [1, 2, 0] dX12_feet_3 (by decide) rfl ?_
  exact t_X12_feet_4 G hG d hd ms_fuel σ l0 0 0 h0
theorem dX12_clashesOf_0 : decode cX12_clashesOf 0 = .ok (.iconst 0, 1) := by decide +kernel
theorem dX12_clashesOf_1 : decode cX12_clashesOf 1 = .ok (.istore_n 1, 1) := by decide +kernel
theorem dX12_clashesOf_2 : decode cX12_clashesOf 2 = .ok (.iconst 0, 1) := by decide +kernel
theorem dX12_clashesOf_3 : decode cX12_clashesOf 3 = .ok (.istore_n 2, 1) := by decide +kernel
theorem dX12_clashesOf_4 : decode cX12_clashesOf 4 = .ok (.iload_n 2, 1) := by decide +kernel
theorem dX12_clashesOf_5 : decode cX12_clashesOf 5 = .ok (.aload_n 0, 1) := by decide +kernel
theorem dX12_clashesOf_6 : decode cX12_clashesOf 6 = .ok (.getfield 168, 3) := by decide +kernel
theorem dX12_clashesOf_9 : decode cX12_clashesOf 9 = .ok (.iconst 1, 1) := by decide +kernel
theorem dX12_clashesOf_10 : decode cX12_clashesOf 10 = .ok (.isub, 1) := by decide +kernel
theorem dX12_clashesOf_11 : decode cX12_clashesOf 11 = .ok (.if_icmp .ge 25, 3) := by decide +kernel
theorem dX12_clashesOf_14 : decode cX12_clashesOf 14 = .ok (.iload_n 1, 1) := by decide +kernel
theorem dX12_clashesOf_15 : decode cX12_clashesOf 15 = .ok (.aload_n 0, 1) := by decide +kernel
theorem dX12_clashesOf_16 : decode cX12_clashesOf 16 = .ok (.iload_n 2, 1) := by decide +kernel
theorem dX12_clashesOf_17 : decode cX12_clashesOf 17 = .ok (.invokevirtual 244, 3) := by decide +kernel
theorem dX12_clashesOf_20 : decode cX12_clashesOf 20 = .ok (.ifCond .eq 7, 3) := by decide +kernel
theorem dX12_clashesOf_23 : decode cX12_clashesOf 23 = .ok (.iconst 1, 1) := by decide +kernel
theorem dX12_clashesOf_24 : decode cX12_clashesOf 24 = .ok (.goto 4, 3) := by decide +kernel
theorem dX12_clashesOf_27 : decode cX12_clashesOf 27 = .ok (.iconst 0, 1) := by decide +kernel
theorem dX12_clashesOf_28 : decode cX12_clashesOf 28 = .ok (.iadd, 1) := by decide +kernel
theorem dX12_clashesOf_29 : decode cX12_clashesOf 29 = .ok (.istore_n 1, 1) := by decide +kernel
theorem dX12_clashesOf_30 : decode cX12_clashesOf 30 = .ok (.iinc 2 1, 3) := by decide +kernel
theorem dX12_clashesOf_33 : decode cX12_clashesOf 33 = .ok (.goto (-29), 3) := by decide +kernel
theorem dX12_clashesOf_36 : decode cX12_clashesOf 36 = .ok (.iload_n 1, 1) := by decide +kernel
theorem dX12_clashesOf_37 : decode cX12_clashesOf 37 = .ok (.ireturn, 1) := by decide +kernel
set_option maxRecDepth 100000 in
theorem t_X12_clashesOf_4 (G : MG) (hG : (g_l G).stackTraces = false) (d : Nat) (hd : 8 ≤ d)    : ∀ (n : Nat) (σ : MsSt) (l0 : Nat) (l1 : Int32) (l2 : Int32) (h0 : ms_kd l0 = 13), TrO G mX12_clashesOf d 0 0 0 0 ms_wi 4 [(0, .ref l0), (1, .int l1), (2, .int l2)] [] σ (f_X12_clashesOf_4 n σ l0 l1 l2) := by
  intro n
  induction n with
  | zero => exact fun _ _ _ _ _ => tr_none
  | succ n ih =>
    intro σ l0 l1 l2 h0
    show TrO G mX12_clashesOf d 0 0 0 0 ms_wi 4 [(0, .ref l0), (1, .int l1), (2, .int l2)] [] σ (if l2 < ((ms_i σ l0 17) - 1) then ms_b2 (f_X12_isClash σ l0 l2) fun v1 s2 => if v1 = 0 then (f_X12_clashesOf_4 n) s2 l0 (l1 + 0) (l2 + 1) else (f_X12_clashesOf_4 n) s2 l0 (l1 + 1) (l2 + 1) else some (l1, σ))
    refine tr_iload_n (i := 2) dX12_clashesOf_4 rfl ?_
    refine tr_aload_n (i := 0) dX12_clashesOf_5 rfl ?_
    refine tr_getI 12 h0 fl_X12_168 (by decide +kernel) dX12_clashesOf_6 ?_
    refine tr_iconst (v := 1) dX12_clashesOf_9 (by decide +kernel) ?_
    refine tr_isub dX12_clashesOf_10 ?_
    refine tr_icge (o := none) (tgt := 36) dX12_clashesOf_11 (by decide) ?_ ?_
    · refine tr_iload_n (i := 1) dX12_clashesOf_36 rfl ?_
      exact tr_iret rfl rfl (by decide) (by decide) dX12_clashesOf_37
    · refine tr_iload_n (i := 1) dX12_clashesOf_14 rfl ?_
      refine tr_aload_n (i := 0) dX12_clashesOf_15 rfl ?_
      refine tr_iload_n (i := 2) dX12_clashesOf_16 rfl ?_
      refine tr_d_wi (ms_cV (rest := [.int l1]) (al := [.int l2]) 12 (sp_X12_isClash G hG (d - 1) (by omega) σ l0 l2 h0) h0 (by decide +kernel) kl_X12_244 fv_X12_isClash dX12_clashesOf_17 (show _ = some 1 by decide +kernel) (by omega) (Nat.le_of_ble_eq_true rfl) (by decide) (by decide)) (fun v1 s2 => ?_)
      refine tr_ifeq (o := none) (tgt := 27) dX12_clashesOf_20 (by decide) ?_ ?_
      · refine tr_iconst (v := 0) dX12_clashesOf_27 (by decide +kernel) ?_
        refine tr_iadd dX12_clashesOf_28 ?_
        refine tr_istore_n (lv' := [(0, .ref l0), (1, .int (l1 + 0)), (2, .int l2)]) [1, 0, 2] dX12_clashesOf_29 (by decide) rfl ?_
        refine tr_iinc (k := 2) (v := (l2 + 1)) (lv' := [(0, .ref l0), (1, .int (l1 + 0)), (2, .int (l2 + 1))]) [1, 2, 0] dX12_clashesOf_30 rfl rfl (by decide) rfl ?_
        refine tr_goto (tgt := 4) dX12_clashesOf_33 (by decide) ?_
        exact (fun s y0 y1 y2 g0 => ih s y0 y1 y2 g0) s2 l0 (l1 + 0) (l2 + 1) h0
      · refine tr_iconst (v := 1) dX12_clashesOf_23 (by decide +kernel) ?_
        refine tr_goto (tgt := 28) dX12_clashesOf_24 (by decide) ?_
        refine tr_iadd dX12_clashesOf_28 ?_
        refine tr_istore_n (lv' := [(0, .ref l0), (1, .int (l1 + 1)), (2, .int l2)]) [1, 0, 2] dX12_clashesOf_29 (by decide) rfl ?_
        refine tr_iinc (k := 2) (v := (l2 + 1)) (lv' := [(0, .ref l0), (1, .int (l1 + 1)), (2, .int (l2 + 1))]) [1, 2, 0] dX12_clashesOf_30 rfl rfl (by decide) rfl ?_
        refine tr_goto (tgt := 4) dX12_clashesOf_33 (by decide) ?_
        exact (fun s y0 y1 y2 g0 => ih s y0 y1 y2 g0) s2 l0 (l1 + 1) (l2 + 1) h0
set_option maxRecDepth 100000 in
theorem sp_X12_clashesOf (G : MG) (hG : (g_l G).stackTraces = false) (d : Nat) (hd : 8 ≤ d)   (σ : MsSt) (l0 : Nat) (h0 : ms_kd l0 = 13) : MsSpec G mX12_clashesOf d 0 0 [.ref l0] σ ms_wi (f_X12_clashesOf σ l0) := by
  refine ms_start (by decide +kernel) rfl rfl (Nat.le_of_ble_eq_true rfl) ?_
  show TrO G mX12_clashesOf d 0 0 0 0 ms_wi 0 [(0, .ref l0)] [] σ (f_X12_clashesOf_4 ms_fuel σ l0 0 0)
  refine tr_iconst (v := 0) dX12_clashesOf_0 (by decide +kernel) ?_
  refine tr_istore_n (lv' := [(0, .ref l0), (1, .int 0)]) [1, 0] dX12_clashesOf_1 (by decide) rfl ?_
  refine tr_iconst (v := 0) dX12_clashesOf_2 (by decide +kernel) ?_
  refine tr_istore_n (lv' := [(0, .ref l0), (1, .int 0), (2, .int 0)]) [1, 2, 0] dX12_clashesOf_3 (by decide) rfl ?_
  exact t_X12_clashesOf_4 G hG d hd ms_fuel σ l0 0 0 h0
theorem dX12_line_0 : decode cX12_line 0 = .ok (.aload_n 0, 1) := by decide +kernel
theorem dX12_line_1 : decode cX12_line 1 = .ok (.iload_n 1, 1) := by decide +kernel
theorem dX12_line_2 : decode cX12_line 2 = .ok (.invokevirtual 247, 3) := by decide +kernel
theorem dX12_line_5 : decode cX12_line 5 = .ok (.ifCond .eq 5, 3) := by decide +kernel
theorem dX12_line_8 : decode cX12_line 8 = .ok (.iconst 0, 1) := by decide +kernel
theorem dX12_line_9 : decode cX12_line 9 = .ok (.ireturn, 1) := by decide +kernel
theorem dX12_line_10 : decode cX12_line 10 = .ok (.aload_n 0, 1) := by decide +kernel
theorem dX12_line_11 : decode cX12_line 11 = .ok (.iload_n 1, 1) := by decide +kernel
theorem dX12_line_12 : decode cX12_line 12 = .ok (.invokevirtual 180, 3) := by decide +kernel
theorem dX12_line_15 : decode cX12_line 15 = .ok (.aload_n 0, 1) := by decide +kernel
theorem dX12_line_16 : decode cX12_line 16 = .ok (.invokevirtual 165, 3) := by decide +kernel
theorem dX12_line_19 : decode cX12_line 19 = .ok (.iload_n 2, 1) := by decide +kernel
theorem dX12_line_20 : decode cX12_line 20 = .ok (.tableswitch 101 0 8 #[52, 61, 66, 71, 76, 81, 86, 91, 96], 52) := by decide +kernel
theorem dX12_line_72 : decode cX12_line 72 = .ok (.aload_n 0, 1) := by decide +kernel
theorem dX12_line_73 : decode cX12_line 73 = .ok (.getfield 9, 3) := by decide +kernel
theorem dX12_line_76 : decode cX12_line 76 = .ok (.iconst 3, 1) := by decide +kernel
theorem dX12_line_77 : decode cX12_line 77 = .ok (.iload_n 1, 1) := by decide +kernel
theorem dX12_line_78 : decode cX12_line 78 = .ok (.iadd, 1) := by decide +kernel
theorem dX12_line_79 : decode cX12_line 79 = .ok (.iaload, 1) := by decide +kernel
theorem dX12_line_80 : decode cX12_line 80 = .ok (.ireturn, 1) := by decide +kernel
theorem dX12_line_81 : decode cX12_line 81 = .ok (.aload_n 0, 1) := by decide +kernel
theorem dX12_line_82 : decode cX12_line 82 = .ok (.getfield 132, 3) := by decide +kernel
theorem dX12_line_85 : decode cX12_line 85 = .ok (.ireturn, 1) := by decide +kernel
theorem dX12_line_86 : decode cX12_line 86 = .ok (.aload_n 0, 1) := by decide +kernel
theorem dX12_line_87 : decode cX12_line 87 = .ok (.getfield 155, 3) := by decide +kernel
theorem dX12_line_90 : decode cX12_line 90 = .ok (.ireturn, 1) := by decide +kernel
theorem dX12_line_91 : decode cX12_line 91 = .ok (.aload_n 0, 1) := by decide +kernel
theorem dX12_line_92 : decode cX12_line 92 = .ok (.getfield 138, 3) := by decide +kernel
theorem dX12_line_95 : decode cX12_line 95 = .ok (.ireturn, 1) := by decide +kernel
theorem dX12_line_96 : decode cX12_line 96 = .ok (.aload_n 0, 1) := by decide +kernel
theorem dX12_line_97 : decode cX12_line 97 = .ok (.getfield 168, 3) := by decide +kernel
theorem dX12_line_100 : decode cX12_line 100 = .ok (.ireturn, 1) := by decide +kernel
theorem dX12_line_101 : decode cX12_line 101 = .ok (.aload_n 0, 1) := by decide +kernel
theorem dX12_line_102 : decode cX12_line 102 = .ok (.invokevirtual 250, 3) := by decide +kernel
theorem dX12_line_105 : decode cX12_line 105 = .ok (.ireturn, 1) := by decide +kernel
theorem dX12_line_106 : decode cX12_line 106 = .ok (.aload_n 0, 1) := by decide +kernel
theorem dX12_line_107 : decode cX12_line 107 = .ok (.invokevirtual 253, 3) := by decide +kernel
theorem dX12_line_110 : decode cX12_line 110 = .ok (.ireturn, 1) := by decide +kernel
theorem dX12_line_111 : decode cX12_line 111 = .ok (.aload_n 0, 1) := by decide +kernel
theorem dX12_line_112 : decode cX12_line 112 = .ok (.invokevirtual 256, 3) := by decide +kernel
theorem dX12_line_115 : decode cX12_line 115 = .ok (.ireturn, 1) := by decide +kernel
theorem dX12_line_116 : decode cX12_line 116 = .ok (.aload_n 0, 1) := by decide +kernel
theorem dX12_line_117 : decode cX12_line 117 = .ok (.invokevirtual 259, 3) := by decide +kernel
theorem dX12_line_120 : decode cX12_line 120 = .ok (.ireturn, 1) := by decide +kernel
theorem dX12_line_121 : decode cX12_line 121 = .ok (.aload_n 0, 1) := by decide +kernel
theorem dX12_line_122 : decode cX12_line 122 = .ok (.iconst 1, 1) := by decide +kernel
theorem dX12_line_123 : decode cX12_line 123 = .ok (.invokevirtual 230, 3) := by decide +kernel
theorem dX12_line_126 : decode cX12_line 126 = .ok (.ireturn, 1) := by decide +kernel
set_option maxRecDepth 100000 in
theorem sp_X12_line (G : MG) (hG : (g_l G).stackTraces = false) (d : Nat) (hd : 9 ≤ d)   (σ : MsSt) (l0 : Nat) (l1 : Int32) (l2 : Int32) (h0 : ms_kd l0 = 13) : MsSpec G mX12_line d 0 0 [.ref l0, .int l1, .int l2] σ ms_wi (f_X12_line σ l0 l1 l2) := by
  refine ms_start (by decide +kernel) rfl rfl (Nat.le_of_ble_eq_true rfl) ?_
  show TrO G mX12_line d 0 0 0 0 ms_wi 0 [(0, .ref l0), (1, .int l1), (2, .int l2)] [] σ (ms_b2 (f_X12_noLine σ l0 l1) fun v1 s2 => if v1 = 0 then (f_X12_layClusters s2 l0 l1).bind fun s3 => (f_X12_layComposed s3 l0).bind fun s4 => if l2 = 0 then (ms_ald s4 (ms_rf l0 0) (3 + l1)).bind fun v7 => some (v7, s4) else if l2 = 1 then some ((ms_i s4 l0 11), s4) else if l2 = 2 then some ((ms_i s4 l0 15), s4) else if l2 = 3 then some ((ms_i s4 l0 12), s4) else if l2 = 4 then some ((ms_i s4 l0 17), s4) else if l2 = 5 then (f_X12_widths s4 l0).bind fun v8 => some (v8, s4) else if l2 = 6 then ms_b2 (f_X12_crowns s4 l0) fun v9 s10 => some (v9, s10) else if l2 = 7 then ms_b2 (f_X12_feet s4 l0) fun v11 s12 => some (v11, s12) else if l2 = 8 then ms_b2 (f_X12_clashesOf s4 l0) fun v13 s14 => some (v13, s14) else ms_b2 (f_X12_raise s4 l0 1) fun v5 s6 => some (v5, s6) else some (0, s2))
  refine tr_aload_n (i := 0) dX12_line_0 rfl ?_
  refine tr_iload_n (i := 1) dX12_line_1 rfl ?_
  refine tr_d_wi (ms_cV (rest := []) (al := [.int l1]) 12 (sp_X12_noLine G hG (d - 1) (by omega) σ l0 l1 h0) h0 (by decide +kernel) kl_X12_247 fv_X12_noLine dX12_line_2 (show _ = some 1 by decide +kernel) (by omega) (Nat.le_of_ble_eq_true rfl) (by decide) (by decide)) (fun v1 s2 => ?_)
  refine tr_ifeq (o := none) (tgt := 10) dX12_line_5 (by decide) ?_ ?_
  · refine tr_aload_n (i := 0) dX12_line_10 rfl ?_
    refine tr_iload_n (i := 1) dX12_line_11 rfl ?_
    refine tr_c_wv (ms_cV (rest := []) (al := [.int l1]) 12 (sp_X12_layClusters G hG (d - 1) (by omega) s2 l0 l1 h0) h0 (by decide +kernel) kl_X12_180 fv_X12_layClusters dX12_line_12 (show _ = some 1 by decide +kernel) (by omega) (Nat.le_of_ble_eq_true rfl) (by decide) (by decide)) (fun s3 => ?_)
    refine tr_aload_n (i := 0) dX12_line_15 rfl ?_
    refine tr_c_wv (ms_cV (rest := []) (al := []) 12 (sp_X12_layComposed G hG (d - 1) (by omega) s3 l0 h0) h0 (by decide +kernel) kl_X12_165 fv_X12_layComposed dX12_line_16 (show _ = some 0 by decide +kernel) (by omega) (Nat.le_of_ble_eq_true rfl) (by decide) (by decide)) (fun s4 => ?_)
    refine tr_iload_n (i := 2) dX12_line_19 rfl ?_
    refine tr_tsIn (tgt := 72) (off := 52) 0 dX12_line_20 (by decide +kernel) (by decide +kernel) (by decide +kernel) (by decide) ?_ (fun n0 => ?_)
    · refine tr_aload_n (i := 0) dX12_line_72 rfl ?_
      refine tr_getR 12 h0 fl_X12_9 (by decide +kernel) dX12_line_73 ?_
      refine tr_iconst (v := 3) dX12_line_76 (by decide +kernel) ?_
      refine tr_iload_n (i := 1) dX12_line_77 rfl ?_
      refine tr_iadd dX12_line_78 ?_
      refine tr_ald (rk_12_0 h0) dX12_line_79 (fun v7 => ?_)
      exact tr_iret rfl rfl (by decide) (by decide) dX12_line_80
    refine tr_tsIn (tgt := 81) (off := 61) 1 dX12_line_20 (by decide +kernel) (by decide +kernel) (by decide +kernel) (by decide) ?_ (fun n1 => ?_)
    · refine tr_aload_n (i := 0) dX12_line_81 rfl ?_
      refine tr_getI 12 h0 fl_X12_132 (by decide +kernel) dX12_line_82 ?_
      exact tr_iret rfl rfl (by decide) (by decide) dX12_line_85
    refine tr_tsIn (tgt := 86) (off := 66) 2 dX12_line_20 (by decide +kernel) (by decide +kernel) (by decide +kernel) (by decide) ?_ (fun n2 => ?_)
    · refine tr_aload_n (i := 0) dX12_line_86 rfl ?_
      refine tr_getI 12 h0 fl_X12_155 (by decide +kernel) dX12_line_87 ?_
      exact tr_iret rfl rfl (by decide) (by decide) dX12_line_90
    refine tr_tsIn (tgt := 91) (off := 71) 3 dX12_line_20 (by decide +kernel) (by decide +kernel) (by decide +kernel) (by decide) ?_ (fun n3 => ?_)
    · refine tr_aload_n (i := 0) dX12_line_91 rfl ?_
      refine tr_getI 12 h0 fl_X12_138 (by decide +kernel) dX12_line_92 ?_
      exact tr_iret rfl rfl (by decide) (by decide) dX12_line_95
    refine tr_tsIn (tgt := 96) (off := 76) 4 dX12_line_20 (by decide +kernel) (by decide +kernel) (by decide +kernel) (by decide) ?_ (fun n4 => ?_)
    · refine tr_aload_n (i := 0) dX12_line_96 rfl ?_
      refine tr_getI 12 h0 fl_X12_168 (by decide +kernel) dX12_line_97 ?_
      exact tr_iret rfl rfl (by decide) (by decide) dX12_line_100
    refine tr_tsIn (tgt := 101) (off := 81) 5 dX12_line_20 (by decide +kernel) (by decide +kernel) (by decide +kernel) (by decide) ?_ (fun n5 => ?_)
    · refine tr_aload_n (i := 0) dX12_line_101 rfl ?_
      refine tr_c_i (ms_cV (rest := []) (al := []) 12 (sp_X12_widths G hG (d - 1) (by omega) s4 l0 h0) h0 (by decide +kernel) kl_X12_250 fv_X12_widths dX12_line_102 (show _ = some 0 by decide +kernel) (by omega) (Nat.le_of_ble_eq_true rfl) (by decide) (by decide)) (fun v8 => ?_)
      exact tr_iret rfl rfl (by decide) (by decide) dX12_line_105
    refine tr_tsIn (tgt := 106) (off := 86) 6 dX12_line_20 (by decide +kernel) (by decide +kernel) (by decide +kernel) (by decide) ?_ (fun n6 => ?_)
    · refine tr_aload_n (i := 0) dX12_line_106 rfl ?_
      refine tr_d_wi (ms_cV (rest := []) (al := []) 12 (sp_X12_crowns G hG (d - 1) (by omega) s4 l0 h0) h0 (by decide +kernel) kl_X12_253 fv_X12_crowns dX12_line_107 (show _ = some 0 by decide +kernel) (by omega) (Nat.le_of_ble_eq_true rfl) (by decide) (by decide)) (fun v9 s10 => ?_)
      exact tr_iret rfl rfl (by decide) (by decide) dX12_line_110
    refine tr_tsIn (tgt := 111) (off := 91) 7 dX12_line_20 (by decide +kernel) (by decide +kernel) (by decide +kernel) (by decide) ?_ (fun n7 => ?_)
    · refine tr_aload_n (i := 0) dX12_line_111 rfl ?_
      refine tr_d_wi (ms_cV (rest := []) (al := []) 12 (sp_X12_feet G hG (d - 1) (by omega) s4 l0 h0) h0 (by decide +kernel) kl_X12_256 fv_X12_feet dX12_line_112 (show _ = some 0 by decide +kernel) (by omega) (Nat.le_of_ble_eq_true rfl) (by decide) (by decide)) (fun v11 s12 => ?_)
      exact tr_iret rfl rfl (by decide) (by decide) dX12_line_115
    refine tr_tsIn (tgt := 116) (off := 96) 8 dX12_line_20 (by decide +kernel) (by decide +kernel) (by decide +kernel) (by decide) ?_ (fun n8 => ?_)
    · refine tr_aload_n (i := 0) dX12_line_116 rfl ?_
      refine tr_d_wi (ms_cV (rest := []) (al := []) 12 (sp_X12_clashesOf G hG (d - 1) (by omega) s4 l0 h0) h0 (by decide +kernel) kl_X12_259 fv_X12_clashesOf dX12_line_117 (show _ = some 0 by decide +kernel) (by omega) (Nat.le_of_ble_eq_true rfl) (by decide) (by decide)) (fun v13 s14 => ?_)
      exact tr_iret rfl rfl (by decide) (by decide) dX12_line_120
    refine tr_tsOut (tgt := 121) dX12_line_20 ?_ (by decide) ?_
    · have q0 := lv_neT (a := 0) n0 (by decide +kernel); have q1 := lv_neT (a := 1) n1 (by decide +kernel); have q2 := lv_neT (a := 2) n2 (by decide +kernel); have q3 := lv_neT (a := 3) n3 (by decide +kernel); have q4 := lv_neT (a := 4) n4 (by decide +kernel); have q5 := lv_neT (a := 5) n5 (by decide +kernel); have q6 := lv_neT (a := 6) n6 (by decide +kernel); have q7 := lv_neT (a := 7) n7 (by decide +kernel); have q8 := lv_neT (a := 8) n8 (by decide +kernel); omega
    refine tr_aload_n (i := 0) dX12_line_121 rfl ?_
    refine tr_iconst (v := 1) dX12_line_122 (by decide +kernel) ?_
    refine tr_d_wi (ms_cV (rest := []) (al := [.int 1]) 12 (sp_X12_raise G hG (d - 1) (by omega) s4 l0 1 h0) h0 (by decide +kernel) kl_X12_230 fv_X12_raise dX12_line_123 (show _ = some 1 by decide +kernel) (by omega) (Nat.le_of_ble_eq_true rfl) (by decide) (by decide)) (fun v5 s6 => ?_)
    exact tr_iret rfl rfl (by decide) (by decide) dX12_line_126
  · refine tr_iconst (v := 0) dX12_line_8 (by decide +kernel) ?_
    exact tr_iret rfl rfl (by decide) (by decide) dX12_line_9
theorem dX12_manyIn_0 : decode cX12_manyIn 0 = .ok (.iload_n 2, 1) := by decide +kernel
theorem dX12_manyIn_1 : decode cX12_manyIn 1 = .ok (.ifCond .ne 14, 3) := by decide +kernel
theorem dX12_manyIn_4 : decode cX12_manyIn 4 = .ok (.aload_n 0, 1) := by decide +kernel
theorem dX12_manyIn_5 : decode cX12_manyIn 5 = .ok (.getfield 9, 3) := by decide +kernel
theorem dX12_manyIn_8 : decode cX12_manyIn 8 = .ok (.iconst 3, 1) := by decide +kernel
theorem dX12_manyIn_9 : decode cX12_manyIn 9 = .ok (.iload_n 1, 1) := by decide +kernel
theorem dX12_manyIn_10 : decode cX12_manyIn 10 = .ok (.iadd, 1) := by decide +kernel
theorem dX12_manyIn_11 : decode cX12_manyIn 11 = .ok (.iaload, 1) := by decide +kernel
theorem dX12_manyIn_12 : decode cX12_manyIn 12 = .ok (.goto 19, 3) := by decide +kernel
theorem dX12_manyIn_15 : decode cX12_manyIn 15 = .ok (.iload_n 2, 1) := by decide +kernel
theorem dX12_manyIn_16 : decode cX12_manyIn 16 = .ok (.iconst 1, 1) := by decide +kernel
theorem dX12_manyIn_17 : decode cX12_manyIn 17 = .ok (.if_icmp .ne 10, 3) := by decide +kernel
theorem dX12_manyIn_20 : decode cX12_manyIn 20 = .ok (.aload_n 0, 1) := by decide +kernel
theorem dX12_manyIn_21 : decode cX12_manyIn 21 = .ok (.getfield 132, 3) := by decide +kernel
theorem dX12_manyIn_24 : decode cX12_manyIn 24 = .ok (.goto 7, 3) := by decide +kernel
theorem dX12_manyIn_27 : decode cX12_manyIn 27 = .ok (.aload_n 0, 1) := by decide +kernel
theorem dX12_manyIn_28 : decode cX12_manyIn 28 = .ok (.getfield 155, 3) := by decide +kernel
theorem dX12_manyIn_31 : decode cX12_manyIn 31 = .ok (.ireturn, 1) := by decide +kernel
set_option maxRecDepth 100000 in
theorem sp_X12_manyIn (G : MG) (hG : (g_l G).stackTraces = false) (d : Nat) (hd : 0 ≤ d)   (σ : MsSt) (l0 : Nat) (l1 : Int32) (l2 : Int32) (h0 : ms_kd l0 = 13) : MsSpec G mX12_manyIn d 0 0 [.ref l0, .int l1, .int l2] σ (ms_ki σ) (f_X12_manyIn σ l0 l1 l2) := by
  refine ms_start (by decide +kernel) rfl rfl (Nat.le_of_ble_eq_true rfl) ?_
  show TrO G mX12_manyIn d 0 0 0 0 (ms_ki σ) 0 [(0, .ref l0), (1, .int l1), (2, .int l2)] [] σ (if l2 = 0 then (ms_ald σ (ms_rf l0 0) (3 + l1)).bind fun v1 => some v1 else if l2 = 1 then some (ms_i σ l0 11) else some (ms_i σ l0 15))
  refine tr_iload_n (i := 2) dX12_manyIn_0 rfl ?_
  refine tr_ifne (o := none) (tgt := 15) dX12_manyIn_1 (by decide) ?_ ?_
  · refine tr_iload_n (i := 2) dX12_manyIn_15 rfl ?_
    refine tr_iconst (v := 1) dX12_manyIn_16 (by decide +kernel) ?_
    refine tr_icne (o := none) (tgt := 27) dX12_manyIn_17 (by decide) ?_ ?_
    · refine tr_aload_n (i := 0) dX12_manyIn_27 rfl ?_
      refine tr_getI 12 h0 fl_X12_155 (by decide +kernel) dX12_manyIn_28 ?_
      exact tr_iret rfl rfl (by decide) (by decide) dX12_manyIn_31
    · refine tr_aload_n (i := 0) dX12_manyIn_20 rfl ?_
      refine tr_getI 12 h0 fl_X12_132 (by decide +kernel) dX12_manyIn_21 ?_
      refine tr_goto (tgt := 31) dX12_manyIn_24 (by decide) ?_
      exact tr_iret rfl rfl (by decide) (by decide) dX12_manyIn_31
  · refine tr_aload_n (i := 0) dX12_manyIn_4 rfl ?_
    refine tr_getR 12 h0 fl_X12_9 (by decide +kernel) dX12_manyIn_5 ?_
    refine tr_iconst (v := 3) dX12_manyIn_8 (by decide +kernel) ?_
    refine tr_iload_n (i := 1) dX12_manyIn_9 rfl ?_
    refine tr_iadd dX12_manyIn_10 ?_
    refine tr_ald (rk_12_0 h0) dX12_manyIn_11 (fun v1 => ?_)
    refine tr_goto (tgt := 31) dX12_manyIn_12 (by decide) ?_
    exact tr_iret rfl rfl (by decide) (by decide) dX12_manyIn_31
theorem dX12_signIn_0 : decode cX12_signIn 0 = .ok (.iload_n 2, 1) := by decide +kernel
theorem dX12_signIn_1 : decode cX12_signIn 1 = .ok (.ifCond .ne 16, 3) := by decide +kernel
theorem dX12_signIn_4 : decode cX12_signIn 4 = .ok (.aload_n 0, 1) := by decide +kernel
theorem dX12_signIn_5 : decode cX12_signIn 5 = .ok (.getfield 9, 3) := by decide +kernel
theorem dX12_signIn_8 : decode cX12_signIn 8 = .ok (.iload_n 1, 1) := by decide +kernel
theorem dX12_signIn_9 : decode cX12_signIn 9 = .ok (.iload_n 3, 1) := by decide +kernel
theorem dX12_signIn_10 : decode cX12_signIn 10 = .ok (.invokestatic 149, 3) := by decide +kernel
theorem dX12_signIn_13 : decode cX12_signIn 13 = .ok (.iaload, 1) := by decide +kernel
theorem dX12_signIn_14 : decode cX12_signIn 14 = .ok (.goto 23, 3) := by decide +kernel
theorem dX12_signIn_17 : decode cX12_signIn 17 = .ok (.iload_n 2, 1) := by decide +kernel
theorem dX12_signIn_18 : decode cX12_signIn 18 = .ok (.iconst 1, 1) := by decide +kernel
theorem dX12_signIn_19 : decode cX12_signIn 19 = .ok (.if_icmp .ne 12, 3) := by decide +kernel
theorem dX12_signIn_22 : decode cX12_signIn 22 = .ok (.aload_n 0, 1) := by decide +kernel
theorem dX12_signIn_23 : decode cX12_signIn 23 = .ok (.getfield 31, 3) := by decide +kernel
theorem dX12_signIn_26 : decode cX12_signIn 26 = .ok (.iload_n 3, 1) := by decide +kernel
theorem dX12_signIn_27 : decode cX12_signIn 27 = .ok (.iaload, 1) := by decide +kernel
theorem dX12_signIn_28 : decode cX12_signIn 28 = .ok (.goto 9, 3) := by decide +kernel
theorem dX12_signIn_31 : decode cX12_signIn 31 = .ok (.aload_n 0, 1) := by decide +kernel
theorem dX12_signIn_32 : decode cX12_signIn 32 = .ok (.getfield 34, 3) := by decide +kernel
theorem dX12_signIn_35 : decode cX12_signIn 35 = .ok (.iload_n 3, 1) := by decide +kernel
theorem dX12_signIn_36 : decode cX12_signIn 36 = .ok (.iaload, 1) := by decide +kernel
theorem dX12_signIn_37 : decode cX12_signIn 37 = .ok (.ireturn, 1) := by decide +kernel
set_option maxRecDepth 100000 in
theorem sp_X12_signIn (G : MG) (hG : (g_l G).stackTraces = false) (d : Nat) (hd : 1 ≤ d)   (σ : MsSt) (l0 : Nat) (l1 : Int32) (l2 : Int32) (l3 : Int32) (h0 : ms_kd l0 = 13) : MsSpec G mX12_signIn d 0 0 [.ref l0, .int l1, .int l2, .int l3] σ (ms_ki σ) (f_X12_signIn σ l0 l1 l2 l3) := by
  refine ms_start (by decide +kernel) rfl rfl (Nat.le_of_ble_eq_true rfl) ?_
  show TrO G mX12_signIn d 0 0 0 0 (ms_ki σ) 0 [(0, .ref l0), (1, .int l1), (2, .int l2), (3, .int l3)] [] σ (if l2 = 0 then (f_X12_spot σ l1 l3).bind fun v3 => (ms_ald σ (ms_rf l0 0) v3).bind fun v4 => some v4 else if l2 = 1 then (ms_ald σ (ms_rf l0 10) l3).bind fun v2 => some v2 else (ms_ald σ (ms_rf l0 13) l3).bind fun v1 => some v1)
  refine tr_iload_n (i := 2) dX12_signIn_0 rfl ?_
  refine tr_ifne (o := none) (tgt := 17) dX12_signIn_1 (by decide) ?_ ?_
  · refine tr_iload_n (i := 2) dX12_signIn_17 rfl ?_
    refine tr_iconst (v := 1) dX12_signIn_18 (by decide +kernel) ?_
    refine tr_icne (o := none) (tgt := 31) dX12_signIn_19 (by decide) ?_ ?_
    · refine tr_aload_n (i := 0) dX12_signIn_31 rfl ?_
      refine tr_getR 12 h0 fl_X12_34 (by decide +kernel) dX12_signIn_32 ?_
      refine tr_iload_n (i := 3) dX12_signIn_35 rfl ?_
      refine tr_ald (rk_12_13 h0) dX12_signIn_36 (fun v1 => ?_)
      exact tr_iret rfl rfl (by decide) (by decide) dX12_signIn_37
    · refine tr_aload_n (i := 0) dX12_signIn_22 rfl ?_
      refine tr_getR 12 h0 fl_X12_31 (by decide +kernel) dX12_signIn_23 ?_
      refine tr_iload_n (i := 3) dX12_signIn_26 rfl ?_
      refine tr_ald (rk_12_10 h0) dX12_signIn_27 (fun v2 => ?_)
      refine tr_goto (tgt := 37) dX12_signIn_28 (by decide) ?_
      exact tr_iret rfl rfl (by decide) (by decide) dX12_signIn_37
  · refine tr_aload_n (i := 0) dX12_signIn_4 rfl ?_
    refine tr_getR 12 h0 fl_X12_9 (by decide +kernel) dX12_signIn_5 ?_
    refine tr_iload_n (i := 1) dX12_signIn_8 rfl ?_
    refine tr_iload_n (i := 3) dX12_signIn_9 rfl ?_
    refine tr_c_i (ms_cS (rest := [.ref (ms_rf l0 0)]) (al := [.int l1, .int l3]) (sp_X12_spot G hG (d - 1) (by omega) σ l1 l3) kl_X12_149 fs_X12_spot dX12_signIn_10 (show _ = some 2 by decide +kernel) (by omega) (Nat.le_of_ble_eq_true rfl) (by decide) (by decide)) (fun v3 => ?_)
    refine tr_ald (rk_12_0 h0) dX12_signIn_13 (fun v4 => ?_)
    refine tr_goto (tgt := 37) dX12_signIn_14 (by decide) ?_
    exact tr_iret rfl rfl (by decide) (by decide) dX12_signIn_37
theorem dX12_at_0 : decode cX12_at 0 = .ok (.aload_n 0, 1) := by decide +kernel
theorem dX12_at_1 : decode cX12_at 1 = .ok (.iload_n 1, 1) := by decide +kernel
theorem dX12_at_2 : decode cX12_at 2 = .ok (.invokevirtual 247, 3) := by decide +kernel
theorem dX12_at_5 : decode cX12_at 5 = .ok (.ifCond .eq 5, 3) := by decide +kernel
theorem dX12_at_8 : decode cX12_at 8 = .ok (.iconst 0, 1) := by decide +kernel
theorem dX12_at_9 : decode cX12_at 9 = .ok (.ireturn, 1) := by decide +kernel
theorem dX12_at_10 : decode cX12_at 10 = .ok (.aload_n 0, 1) := by decide +kernel
theorem dX12_at_11 : decode cX12_at 11 = .ok (.iload_n 1, 1) := by decide +kernel
theorem dX12_at_12 : decode cX12_at 12 = .ok (.invokevirtual 262, 3) := by decide +kernel
theorem dX12_at_15 : decode cX12_at 15 = .ok (.iload_n 2, 1) := by decide +kernel
theorem dX12_at_16 : decode cX12_at 16 = .ok (.i2l, 1) := by decide +kernel
theorem dX12_at_17 : decode cX12_at 17 = .ok (.lconst 0, 1) := by decide +kernel
theorem dX12_at_18 : decode cX12_at 18 = .ok (.ldc2_w 265, 3) := by decide +kernel
theorem dX12_at_21 : decode cX12_at 21 = .ok (.invokestatic 110, 3) := by decide +kernel
theorem dX12_at_24 : decode cX12_at 24 = .ok (.ifCond .eq 31, 3) := by decide +kernel
theorem dX12_at_27 : decode cX12_at 27 = .ok (.iload_n 3, 1) := by decide +kernel
theorem dX12_at_28 : decode cX12_at 28 = .ok (.i2l, 1) := by decide +kernel
theorem dX12_at_29 : decode cX12_at 29 = .ok (.lconst 0, 1) := by decide +kernel
theorem dX12_at_30 : decode cX12_at 30 = .ok (.aload_n 0, 1) := by decide +kernel
theorem dX12_at_31 : decode cX12_at 31 = .ok (.iload_n 1, 1) := by decide +kernel
theorem dX12_at_32 : decode cX12_at 32 = .ok (.iload_n 2, 1) := by decide +kernel
theorem dX12_at_33 : decode cX12_at 33 = .ok (.invokevirtual 267, 3) := by decide +kernel
theorem dX12_at_36 : decode cX12_at 36 = .ok (.iconst 1, 1) := by decide +kernel
theorem dX12_at_37 : decode cX12_at 37 = .ok (.isub, 1) := by decide +kernel
theorem dX12_at_38 : decode cX12_at 38 = .ok (.i2l, 1) := by decide +kernel
theorem dX12_at_39 : decode cX12_at 39 = .ok (.invokestatic 110, 3) := by decide +kernel
theorem dX12_at_42 : decode cX12_at 42 = .ok (.ifCond .eq 13, 3) := by decide +kernel
theorem dX12_at_45 : decode cX12_at 45 = .ok (.aload_n 0, 1) := by decide +kernel
theorem dX12_at_46 : decode cX12_at 46 = .ok (.iload_n 1, 1) := by decide +kernel
theorem dX12_at_47 : decode cX12_at 47 = .ok (.iload_n 2, 1) := by decide +kernel
theorem dX12_at_48 : decode cX12_at 48 = .ok (.iload_n 3, 1) := by decide +kernel
theorem dX12_at_49 : decode cX12_at 49 = .ok (.invokevirtual 270, 3) := by decide +kernel
theorem dX12_at_52 : decode cX12_at 52 = .ok (.goto 8, 3) := by decide +kernel
theorem dX12_at_55 : decode cX12_at 55 = .ok (.aload_n 0, 1) := by decide +kernel
theorem dX12_at_56 : decode cX12_at 56 = .ok (.iconst 1, 1) := by decide +kernel
theorem dX12_at_57 : decode cX12_at 57 = .ok (.invokevirtual 230, 3) := by decide +kernel
theorem dX12_at_60 : decode cX12_at 60 = .ok (.ireturn, 1) := by decide +kernel
set_option maxRecDepth 100000 in
theorem sp_X12_at (G : MG) (hG : (g_l G).stackTraces = false) (d : Nat) (hd : 7 ≤ d)   (σ : MsSt) (l0 : Nat) (l1 : Int32) (l2 : Int32) (l3 : Int32) (h0 : ms_kd l0 = 13) : MsSpec G mX12_at d 0 0 [.ref l0, .int l1, .int l2, .int l3] σ ms_wi (f_X12_at σ l0 l1 l2 l3) := by
  refine ms_start (by decide +kernel) rfl rfl (Nat.le_of_ble_eq_true rfl) ?_
  show TrO G mX12_at d 0 0 0 0 ms_wi 0 [(0, .ref l0), (1, .int l1), (2, .int l2), (3, .int l3)] [] σ (ms_b2 (f_X12_noLine σ l0 l1) fun v1 s2 => if v1 = 0 then (f_X12_layForms s2 l0 l1).bind fun s3 => (f_X12_inRange s3 l2.toInt64 0 2).bind fun v4 => if v4 = 0 then ms_b2 (f_X12_raise s3 l0 1) fun v5 s6 => some (v5, s6) else (f_X12_manyIn s3 l0 l1 l2).bind fun v7 => (f_X12_inRange s3 l3.toInt64 0 ((v7 - 1).toInt64)).bind fun v8 => if v8 = 0 then ms_b2 (f_X12_raise s3 l0 1) fun v9 s10 => some (v9, s10) else (f_X12_signIn s3 l0 l1 l2 l3).bind fun v11 => some (v11, s3) else some (0, s2))
  refine tr_aload_n (i := 0) dX12_at_0 rfl ?_
  refine tr_iload_n (i := 1) dX12_at_1 rfl ?_
  refine tr_d_wi (ms_cV (rest := []) (al := [.int l1]) 12 (sp_X12_noLine G hG (d - 1) (by omega) σ l0 l1 h0) h0 (by decide +kernel) kl_X12_247 fv_X12_noLine dX12_at_2 (show _ = some 1 by decide +kernel) (by omega) (Nat.le_of_ble_eq_true rfl) (by decide) (by decide)) (fun v1 s2 => ?_)
  refine tr_ifeq (o := none) (tgt := 10) dX12_at_5 (by decide) ?_ ?_
  · refine tr_aload_n (i := 0) dX12_at_10 rfl ?_
    refine tr_iload_n (i := 1) dX12_at_11 rfl ?_
    refine tr_c_wv (ms_cV (rest := []) (al := [.int l1]) 12 (sp_X12_layForms G hG (d - 1) (by omega) s2 l0 l1 h0) h0 (by decide +kernel) kl_X12_262 fv_X12_layForms dX12_at_12 (show _ = some 1 by decide +kernel) (by omega) (Nat.le_of_ble_eq_true rfl) (by decide) (by decide)) (fun s3 => ?_)
    refine tr_iload_n (i := 2) dX12_at_15 rfl ?_
    refine tr_i2l dX12_at_16 ?_
    refine tr_lconst (v := 0) dX12_at_17 (by decide +kernel) ?_
    refine tr_ldcl (v := 2) (List.mem_of_getElem? (i := 1943) (by decide +kernel)) dX12_at_18 ?_
    refine tr_c_i (ms_cS (rest := []) (al := [.long l2.toInt64, .long 0, .long 2]) (sp_X12_inRange G hG (d - 1) (by omega) s3 l2.toInt64 0 2) kl_X12_110 fs_X12_inRange dX12_at_21 (show _ = some 3 by decide +kernel) (by omega) (Nat.le_of_ble_eq_true rfl) (by decide) (by decide)) (fun v4 => ?_)
    refine tr_ifeq (o := none) (tgt := 55) dX12_at_24 (by decide) ?_ ?_
    · refine tr_aload_n (i := 0) dX12_at_55 rfl ?_
      refine tr_iconst (v := 1) dX12_at_56 (by decide +kernel) ?_
      refine tr_d_wi (ms_cV (rest := []) (al := [.int 1]) 12 (sp_X12_raise G hG (d - 1) (by omega) s3 l0 1 h0) h0 (by decide +kernel) kl_X12_230 fv_X12_raise dX12_at_57 (show _ = some 1 by decide +kernel) (by omega) (Nat.le_of_ble_eq_true rfl) (by decide) (by decide)) (fun v5 s6 => ?_)
      exact tr_iret rfl rfl (by decide) (by decide) dX12_at_60
    · refine tr_iload_n (i := 3) dX12_at_27 rfl ?_
      refine tr_i2l dX12_at_28 ?_
      refine tr_lconst (v := 0) dX12_at_29 (by decide +kernel) ?_
      refine tr_aload_n (i := 0) dX12_at_30 rfl ?_
      refine tr_iload_n (i := 1) dX12_at_31 rfl ?_
      refine tr_iload_n (i := 2) dX12_at_32 rfl ?_
      refine tr_c_i (ms_cV (rest := [.long 0, .long l3.toInt64]) (al := [.int l1, .int l2]) 12 (sp_X12_manyIn G hG (d - 1) (by omega) s3 l0 l1 l2 h0) h0 (by decide +kernel) kl_X12_267 fv_X12_manyIn dX12_at_33 (show _ = some 2 by decide +kernel) (by omega) (Nat.le_of_ble_eq_true rfl) (by decide) (by decide)) (fun v7 => ?_)
      refine tr_iconst (v := 1) dX12_at_36 (by decide +kernel) ?_
      refine tr_isub dX12_at_37 ?_
      refine tr_i2l dX12_at_38 ?_
      refine tr_c_i (ms_cS (rest := []) (al := [.long l3.toInt64, .long 0, .long ((v7 - 1).toInt64)]) (sp_X12_inRange G hG (d - 1) (by omega) s3 l3.toInt64 0 ((v7 - 1).toInt64)) kl_X12_110 fs_X12_inRange dX12_at_39 (show _ = some 3 by decide +kernel) (by omega) (Nat.le_of_ble_eq_true rfl) (by decide) (by decide)) (fun v8 => ?_)
      refine tr_ifeq (o := none) (tgt := 55) dX12_at_42 (by decide) ?_ ?_
      · refine tr_aload_n (i := 0) dX12_at_55 rfl ?_
        refine tr_iconst (v := 1) dX12_at_56 (by decide +kernel) ?_
        refine tr_d_wi (ms_cV (rest := []) (al := [.int 1]) 12 (sp_X12_raise G hG (d - 1) (by omega) s3 l0 1 h0) h0 (by decide +kernel) kl_X12_230 fv_X12_raise dX12_at_57 (show _ = some 1 by decide +kernel) (by omega) (Nat.le_of_ble_eq_true rfl) (by decide) (by decide)) (fun v9 s10 => ?_)
        exact tr_iret rfl rfl (by decide) (by decide) dX12_at_60
      · refine tr_aload_n (i := 0) dX12_at_45 rfl ?_
        refine tr_iload_n (i := 1) dX12_at_46 rfl ?_
        refine tr_iload_n (i := 2) dX12_at_47 rfl ?_
        refine tr_iload_n (i := 3) dX12_at_48 rfl ?_
        refine tr_c_i (ms_cV (rest := []) (al := [.int l1, .int l2, .int l3]) 12 (sp_X12_signIn G hG (d - 1) (by omega) s3 l0 l1 l2 l3 h0) h0 (by decide +kernel) kl_X12_270 fv_X12_signIn dX12_at_49 (show _ = some 3 by decide +kernel) (by omega) (Nat.le_of_ble_eq_true rfl) (by decide) (by decide)) (fun v11 => ?_)
        refine tr_goto (tgt := 60) dX12_at_52 (by decide) ?_
        exact tr_iret rfl rfl (by decide) (by decide) dX12_at_60
  · refine tr_iconst (v := 0) dX12_at_8 (by decide +kernel) ?_
    exact tr_iret rfl rfl (by decide) (by decide) dX12_at_9
theorem dX12_unlike_0 : decode cX12_unlike 0 = .ok (.aload_n 0, 1) := by decide +kernel
theorem dX12_unlike_1 : decode cX12_unlike 1 = .ok (.iload_n 1, 1) := by decide +kernel
theorem dX12_unlike_2 : decode cX12_unlike 2 = .ok (.invokevirtual 247, 3) := by decide +kernel
theorem dX12_unlike_5 : decode cX12_unlike 5 = .ok (.ifCond .eq 5, 3) := by decide +kernel
theorem dX12_unlike_8 : decode cX12_unlike 8 = .ok (.iconst 0, 1) := by decide +kernel
theorem dX12_unlike_9 : decode cX12_unlike 9 = .ok (.ireturn, 1) := by decide +kernel
theorem dX12_unlike_10 : decode cX12_unlike 10 = .ok (.iload_n 2, 1) := by decide +kernel
theorem dX12_unlike_11 : decode cX12_unlike 11 = .ok (.i2l, 1) := by decide +kernel
theorem dX12_unlike_12 : decode cX12_unlike 12 = .ok (.lconst 1, 1) := by decide +kernel
theorem dX12_unlike_13 : decode cX12_unlike 13 = .ok (.ldc2_w 265, 3) := by decide +kernel
theorem dX12_unlike_16 : decode cX12_unlike 16 = .ok (.invokestatic 110, 3) := by decide +kernel
theorem dX12_unlike_19 : decode cX12_unlike 19 = .ok (.ifCond .ne 9, 3) := by decide +kernel
theorem dX12_unlike_22 : decode cX12_unlike 22 = .ok (.aload_n 0, 1) := by decide +kernel
theorem dX12_unlike_23 : decode cX12_unlike 23 = .ok (.iconst 1, 1) := by decide +kernel
theorem dX12_unlike_24 : decode cX12_unlike 24 = .ok (.invokevirtual 230, 3) := by decide +kernel
theorem dX12_unlike_27 : decode cX12_unlike 27 = .ok (.ireturn, 1) := by decide +kernel
theorem dX12_unlike_28 : decode cX12_unlike 28 = .ok (.aload_n 0, 1) := by decide +kernel
theorem dX12_unlike_29 : decode cX12_unlike 29 = .ok (.iload_n 1, 1) := by decide +kernel
theorem dX12_unlike_30 : decode cX12_unlike 30 = .ok (.invokevirtual 262, 3) := by decide +kernel
theorem dX12_unlike_33 : decode cX12_unlike 33 = .ok (.aload_n 0, 1) := by decide +kernel
theorem dX12_unlike_34 : decode cX12_unlike 34 = .ok (.iload_n 1, 1) := by decide +kernel
theorem dX12_unlike_35 : decode cX12_unlike 35 = .ok (.iconst 0, 1) := by decide +kernel
theorem dX12_unlike_36 : decode cX12_unlike 36 = .ok (.invokevirtual 267, 3) := by decide +kernel
theorem dX12_unlike_39 : decode cX12_unlike 39 = .ok (.istore_n 3, 1) := by decide +kernel
theorem dX12_unlike_40 : decode cX12_unlike 40 = .ok (.aload_n 0, 1) := by decide +kernel
theorem dX12_unlike_41 : decode cX12_unlike 41 = .ok (.iload_n 1, 1) := by decide +kernel
theorem dX12_unlike_42 : decode cX12_unlike 42 = .ok (.iload_n 2, 1) := by decide +kernel
theorem dX12_unlike_43 : decode cX12_unlike 43 = .ok (.invokevirtual 267, 3) := by decide +kernel
theorem dX12_unlike_46 : decode cX12_unlike 46 = .ok (.istore 4, 2) := by decide +kernel
theorem dX12_unlike_48 : decode cX12_unlike 48 = .ok (.iconst 0, 1) := by decide +kernel
theorem dX12_unlike_49 : decode cX12_unlike 49 = .ok (.istore 5, 2) := by decide +kernel
theorem dX12_unlike_51 : decode cX12_unlike 51 = .ok (.iload 5, 2) := by decide +kernel
theorem dX12_unlike_53 : decode cX12_unlike 53 = .ok (.iload_n 3, 1) := by decide +kernel
theorem dX12_unlike_54 : decode cX12_unlike 54 = .ok (.iload 4, 2) := by decide +kernel
theorem dX12_unlike_56 : decode cX12_unlike 56 = .ok (.invokestatic 207, 3) := by decide +kernel
theorem dX12_unlike_59 : decode cX12_unlike 59 = .ok (.if_icmp .ge 31, 3) := by decide +kernel
theorem dX12_unlike_62 : decode cX12_unlike 62 = .ok (.aload_n 0, 1) := by decide +kernel
theorem dX12_unlike_63 : decode cX12_unlike 63 = .ok (.iload_n 1, 1) := by decide +kernel
theorem dX12_unlike_64 : decode cX12_unlike 64 = .ok (.iconst 0, 1) := by decide +kernel
theorem dX12_unlike_65 : decode cX12_unlike 65 = .ok (.iload 5, 2) := by decide +kernel
theorem dX12_unlike_67 : decode cX12_unlike 67 = .ok (.invokevirtual 270, 3) := by decide +kernel
theorem dX12_unlike_70 : decode cX12_unlike 70 = .ok (.aload_n 0, 1) := by decide +kernel
theorem dX12_unlike_71 : decode cX12_unlike 71 = .ok (.iload_n 1, 1) := by decide +kernel
theorem dX12_unlike_72 : decode cX12_unlike 72 = .ok (.iload_n 2, 1) := by decide +kernel
theorem dX12_unlike_73 : decode cX12_unlike 73 = .ok (.iload 5, 2) := by decide +kernel
theorem dX12_unlike_75 : decode cX12_unlike 75 = .ok (.invokevirtual 270, 3) := by decide +kernel
theorem dX12_unlike_78 : decode cX12_unlike 78 = .ok (.if_icmp .eq 6, 3) := by decide +kernel
theorem dX12_unlike_81 : decode cX12_unlike 81 = .ok (.iload 5, 2) := by decide +kernel
theorem dX12_unlike_83 : decode cX12_unlike 83 = .ok (.ireturn, 1) := by decide +kernel
theorem dX12_unlike_84 : decode cX12_unlike 84 = .ok (.iinc 5 1, 3) := by decide +kernel
theorem dX12_unlike_87 : decode cX12_unlike 87 = .ok (.goto (-36), 3) := by decide +kernel
theorem dX12_unlike_90 : decode cX12_unlike 90 = .ok (.iload_n 3, 1) := by decide +kernel
theorem dX12_unlike_91 : decode cX12_unlike 91 = .ok (.iload 4, 2) := by decide +kernel
theorem dX12_unlike_93 : decode cX12_unlike 93 = .ok (.if_icmp .ne 7, 3) := by decide +kernel
theorem dX12_unlike_96 : decode cX12_unlike 96 = .ok (.iconst (-1), 1) := by decide +kernel
theorem dX12_unlike_97 : decode cX12_unlike 97 = .ok (.goto 9, 3) := by decide +kernel
theorem dX12_unlike_100 : decode cX12_unlike 100 = .ok (.iload_n 3, 1) := by decide +kernel
theorem dX12_unlike_101 : decode cX12_unlike 101 = .ok (.iload 4, 2) := by decide +kernel
theorem dX12_unlike_103 : decode cX12_unlike 103 = .ok (.invokestatic 207, 3) := by decide +kernel
theorem dX12_unlike_106 : decode cX12_unlike 106 = .ok (.ireturn, 1) := by decide +kernel
set_option maxRecDepth 100000 in
theorem t_X12_unlike_51 (G : MG) (hG : (g_l G).stackTraces = false) (d : Nat) (hd : 7 ≤ d)    : ∀ (n : Nat) (σ : MsSt) (l0 : Nat) (l1 : Int32) (l2 : Int32) (l3 : Int32) (l4 : Int32) (l5 : Int32) (h0 : ms_kd l0 = 13), TrO G mX12_unlike d 0 0 0 0 ms_wi 51 [(0, .ref l0), (1, .int l1), (2, .int l2), (3, .int l3), (4, .int l4), (5, .int l5)] [] σ (f_X12_unlike_51 n σ l0 l1 l2 l3 l4 l5) := by
  intro n
  induction n with
  | zero => exact fun _ _ _ _ _ _ _ _ => tr_none
  | succ n ih =>
    intro σ l0 l1 l2 l3 l4 l5 h0
    show TrO G mX12_unlike d 0 0 0 0 ms_wi 51 [(0, .ref l0), (1, .int l1), (2, .int l2), (3, .int l3), (4, .int l4), (5, .int l5)] [] σ (if l5 < (if l4 < l3 then l4 else l3) then (f_X12_signIn σ l0 l1 0 l5).bind fun v7 => (f_X12_signIn σ l0 l1 l2 l5).bind fun v8 => if v7 = v8 then (f_X12_unlike_51 n) σ l0 l1 l2 l3 l4 (l5 + 1) else some (l5, σ) else if l3 = l4 then some ((-1), σ) else some ((if l4 < l3 then l4 else l3), σ))
    refine tr_iload (i := 5) dX12_unlike_51 rfl ?_
    refine tr_iload_n (i := 3) dX12_unlike_53 rfl ?_
    refine tr_iload (i := 4) dX12_unlike_54 rfl ?_
    refine tr_mmin (List.mem_of_getElem? (i := 1917) (by decide +kernel)) (List.mem_of_getElem? (i := 786) (by decide +kernel)) (List.mem_of_getElem? (i := 144) (by decide +kernel)) (List.mem_of_getElem? (i := 787) (by decide +kernel)) (by omega) (Nat.le_of_ble_eq_true rfl) (by decide) (by decide) dX12_unlike_56 ?_
    refine tr_icge (o := none) (tgt := 90) dX12_unlike_59 (by decide) ?_ ?_
    · refine tr_iload_n (i := 3) dX12_unlike_90 rfl ?_
      refine tr_iload (i := 4) dX12_unlike_91 rfl ?_
      refine tr_icne (o := none) (tgt := 100) dX12_unlike_93 (by decide) ?_ ?_
      · refine tr_iload_n (i := 3) dX12_unlike_100 rfl ?_
        refine tr_iload (i := 4) dX12_unlike_101 rfl ?_
        refine tr_mmin (List.mem_of_getElem? (i := 1917) (by decide +kernel)) (List.mem_of_getElem? (i := 786) (by decide +kernel)) (List.mem_of_getElem? (i := 144) (by decide +kernel)) (List.mem_of_getElem? (i := 787) (by decide +kernel)) (by omega) (Nat.le_of_ble_eq_true rfl) (by decide) (by decide) dX12_unlike_103 ?_
        exact tr_iret rfl rfl (by decide) (by decide) dX12_unlike_106
      · refine tr_iconst (v := (-1)) dX12_unlike_96 (by decide +kernel) ?_
        refine tr_goto (tgt := 106) dX12_unlike_97 (by decide) ?_
        exact tr_iret rfl rfl (by decide) (by decide) dX12_unlike_106
    · refine tr_aload_n (i := 0) dX12_unlike_62 rfl ?_
      refine tr_iload_n (i := 1) dX12_unlike_63 rfl ?_
      refine tr_iconst (v := 0) dX12_unlike_64 (by decide +kernel) ?_
      refine tr_iload (i := 5) dX12_unlike_65 rfl ?_
      refine tr_c_i (ms_cV (rest := []) (al := [.int l1, .int 0, .int l5]) 12 (sp_X12_signIn G hG (d - 1) (by omega) σ l0 l1 0 l5 h0) h0 (by decide +kernel) kl_X12_270 fv_X12_signIn dX12_unlike_67 (show _ = some 3 by decide +kernel) (by omega) (Nat.le_of_ble_eq_true rfl) (by decide) (by decide)) (fun v7 => ?_)
      refine tr_aload_n (i := 0) dX12_unlike_70 rfl ?_
      refine tr_iload_n (i := 1) dX12_unlike_71 rfl ?_
      refine tr_iload_n (i := 2) dX12_unlike_72 rfl ?_
      refine tr_iload (i := 5) dX12_unlike_73 rfl ?_
      refine tr_c_i (ms_cV (rest := [.int v7]) (al := [.int l1, .int l2, .int l5]) 12 (sp_X12_signIn G hG (d - 1) (by omega) σ l0 l1 l2 l5 h0) h0 (by decide +kernel) kl_X12_270 fv_X12_signIn dX12_unlike_75 (show _ = some 3 by decide +kernel) (by omega) (Nat.le_of_ble_eq_true rfl) (by decide) (by decide)) (fun v8 => ?_)
      refine tr_iceq (o := none) (tgt := 84) dX12_unlike_78 (by decide) ?_ ?_
      · refine tr_iinc (k := 5) (v := (l5 + 1)) (lv' := [(0, .ref l0), (1, .int l1), (2, .int l2), (3, .int l3), (4, .int l4), (5, .int (l5 + 1))]) [1, 2, 3, 4, 5, 0] dX12_unlike_84 rfl rfl (by decide) rfl ?_
        refine tr_goto (tgt := 51) dX12_unlike_87 (by decide) ?_
        exact (fun s y0 y1 y2 y3 y4 y5 g0 => ih s y0 y1 y2 y3 y4 y5 g0) σ l0 l1 l2 l3 l4 (l5 + 1) h0
      · refine tr_iload (i := 5) dX12_unlike_81 rfl ?_
        exact tr_iret rfl rfl (by decide) (by decide) dX12_unlike_83
set_option maxRecDepth 100000 in
theorem sp_X12_unlike (G : MG) (hG : (g_l G).stackTraces = false) (d : Nat) (hd : 7 ≤ d)   (σ : MsSt) (l0 : Nat) (l1 : Int32) (l2 : Int32) (h0 : ms_kd l0 = 13) : MsSpec G mX12_unlike d 0 0 [.ref l0, .int l1, .int l2] σ ms_wi (f_X12_unlike σ l0 l1 l2) := by
  refine ms_start (by decide +kernel) rfl rfl (Nat.le_of_ble_eq_true rfl) ?_
  show TrO G mX12_unlike d 0 0 0 0 ms_wi 0 [(0, .ref l0), (1, .int l1), (2, .int l2)] [] σ (ms_b2 (f_X12_noLine σ l0 l1) fun v1 s2 => if v1 = 0 then (f_X12_inRange s2 l2.toInt64 1 2).bind fun v3 => if v3 = 0 then ms_b2 (f_X12_raise s2 l0 1) fun v9 s10 => some (v9, s10) else (f_X12_layForms s2 l0 l1).bind fun s4 => (f_X12_manyIn s4 l0 l1 0).bind fun v5 => (f_X12_manyIn s4 l0 l1 l2).bind fun v6 => f_X12_unlike_51 ms_fuel s4 l0 l1 l2 v5 v6 0 else some (0, s2))
  refine tr_aload_n (i := 0) dX12_unlike_0 rfl ?_
  refine tr_iload_n (i := 1) dX12_unlike_1 rfl ?_
  refine tr_d_wi (ms_cV (rest := []) (al := [.int l1]) 12 (sp_X12_noLine G hG (d - 1) (by omega) σ l0 l1 h0) h0 (by decide +kernel) kl_X12_247 fv_X12_noLine dX12_unlike_2 (show _ = some 1 by decide +kernel) (by omega) (Nat.le_of_ble_eq_true rfl) (by decide) (by decide)) (fun v1 s2 => ?_)
  refine tr_ifeq (o := none) (tgt := 10) dX12_unlike_5 (by decide) ?_ ?_
  · refine tr_iload_n (i := 2) dX12_unlike_10 rfl ?_
    refine tr_i2l dX12_unlike_11 ?_
    refine tr_lconst (v := 1) dX12_unlike_12 (by decide +kernel) ?_
    refine tr_ldcl (v := 2) (List.mem_of_getElem? (i := 1943) (by decide +kernel)) dX12_unlike_13 ?_
    refine tr_c_i (ms_cS (rest := []) (al := [.long l2.toInt64, .long 1, .long 2]) (sp_X12_inRange G hG (d - 1) (by omega) s2 l2.toInt64 1 2) kl_X12_110 fs_X12_inRange dX12_unlike_16 (show _ = some 3 by decide +kernel) (by omega) (Nat.le_of_ble_eq_true rfl) (by decide) (by decide)) (fun v3 => ?_)
    refine tr_ifne (o := none) (tgt := 28) dX12_unlike_19 (by decide) ?_ ?_
    · refine tr_aload_n (i := 0) dX12_unlike_28 rfl ?_
      refine tr_iload_n (i := 1) dX12_unlike_29 rfl ?_
      refine tr_c_wv (ms_cV (rest := []) (al := [.int l1]) 12 (sp_X12_layForms G hG (d - 1) (by omega) s2 l0 l1 h0) h0 (by decide +kernel) kl_X12_262 fv_X12_layForms dX12_unlike_30 (show _ = some 1 by decide +kernel) (by omega) (Nat.le_of_ble_eq_true rfl) (by decide) (by decide)) (fun s4 => ?_)
      refine tr_aload_n (i := 0) dX12_unlike_33 rfl ?_
      refine tr_iload_n (i := 1) dX12_unlike_34 rfl ?_
      refine tr_iconst (v := 0) dX12_unlike_35 (by decide +kernel) ?_
      refine tr_c_i (ms_cV (rest := []) (al := [.int l1, .int 0]) 12 (sp_X12_manyIn G hG (d - 1) (by omega) s4 l0 l1 0 h0) h0 (by decide +kernel) kl_X12_267 fv_X12_manyIn dX12_unlike_36 (show _ = some 2 by decide +kernel) (by omega) (Nat.le_of_ble_eq_true rfl) (by decide) (by decide)) (fun v5 => ?_)
      refine tr_istore_n (lv' := [(0, .ref l0), (1, .int l1), (2, .int l2), (3, .int v5)]) [1, 2, 3, 0] dX12_unlike_39 (by decide) rfl ?_
      refine tr_aload_n (i := 0) dX12_unlike_40 rfl ?_
      refine tr_iload_n (i := 1) dX12_unlike_41 rfl ?_
      refine tr_iload_n (i := 2) dX12_unlike_42 rfl ?_
      refine tr_c_i (ms_cV (rest := []) (al := [.int l1, .int l2]) 12 (sp_X12_manyIn G hG (d - 1) (by omega) s4 l0 l1 l2 h0) h0 (by decide +kernel) kl_X12_267 fv_X12_manyIn dX12_unlike_43 (show _ = some 2 by decide +kernel) (by omega) (Nat.le_of_ble_eq_true rfl) (by decide) (by decide)) (fun v6 => ?_)
      refine tr_istore (lv' := [(0, .ref l0), (1, .int l1), (2, .int l2), (3, .int v5), (4, .int v6)]) [1, 2, 3, 4, 0] dX12_unlike_46 (by decide) rfl ?_
      refine tr_iconst (v := 0) dX12_unlike_48 (by decide +kernel) ?_
      refine tr_istore (lv' := [(0, .ref l0), (1, .int l1), (2, .int l2), (3, .int v5), (4, .int v6), (5, .int 0)]) [1, 2, 3, 4, 5, 0] dX12_unlike_49 (by decide) rfl ?_
      exact t_X12_unlike_51 G hG d hd ms_fuel s4 l0 l1 l2 v5 v6 0 h0
    · refine tr_aload_n (i := 0) dX12_unlike_22 rfl ?_
      refine tr_iconst (v := 1) dX12_unlike_23 (by decide +kernel) ?_
      refine tr_d_wi (ms_cV (rest := []) (al := [.int 1]) 12 (sp_X12_raise G hG (d - 1) (by omega) s2 l0 1 h0) h0 (by decide +kernel) kl_X12_230 fv_X12_raise dX12_unlike_24 (show _ = some 1 by decide +kernel) (by omega) (Nat.le_of_ble_eq_true rfl) (by decide) (by decide)) (fun v9 s10 => ?_)
      exact tr_iret rfl rfl (by decide) (by decide) dX12_unlike_27
  · refine tr_iconst (v := 0) dX12_unlike_8 (by decide +kernel) ?_
    exact tr_iret rfl rfl (by decide) (by decide) dX12_unlike_9
theorem dX12_clusterAt_0 : decode cX12_clusterAt 0 = .ok (.iconst (-1), 1) := by decide +kernel
theorem dX12_clusterAt_1 : decode cX12_clusterAt 1 = .ok (.istore_n 3, 1) := by decide +kernel
theorem dX12_clusterAt_2 : decode cX12_clusterAt 2 = .ok (.iconst 0, 1) := by decide +kernel
theorem dX12_clusterAt_3 : decode cX12_clusterAt 3 = .ok (.istore 4, 2) := by decide +kernel
theorem dX12_clusterAt_5 : decode cX12_clusterAt 5 = .ok (.iload 4, 2) := by decide +kernel
theorem dX12_clusterAt_7 : decode cX12_clusterAt 7 = .ok (.iload_n 2, 1) := by decide +kernel
theorem dX12_clusterAt_8 : decode cX12_clusterAt 8 = .ok (.if_icmp .gt 52, 3) := by decide +kernel
theorem dX12_clusterAt_11 : decode cX12_clusterAt 11 = .ok (.aload_n 0, 1) := by decide +kernel
theorem dX12_clusterAt_12 : decode cX12_clusterAt 12 = .ok (.aload_n 0, 1) := by decide +kernel
theorem dX12_clusterAt_13 : decode cX12_clusterAt 13 = .ok (.getfield 9, 3) := by decide +kernel
theorem dX12_clusterAt_16 : decode cX12_clusterAt 16 = .ok (.iload_n 1, 1) := by decide +kernel
theorem dX12_clusterAt_17 : decode cX12_clusterAt 17 = .ok (.iload 4, 2) := by decide +kernel
theorem dX12_clusterAt_19 : decode cX12_clusterAt 19 = .ok (.invokestatic 149, 3) := by decide +kernel
theorem dX12_clusterAt_22 : decode cX12_clusterAt 22 = .ok (.iaload, 1) := by decide +kernel
theorem dX12_clusterAt_23 : decode cX12_clusterAt 23 = .ok (.invokevirtual 135, 3) := by decide +kernel
theorem dX12_clusterAt_26 : decode cX12_clusterAt 26 = .ok (.ifCond .ne 7, 3) := by decide +kernel
theorem dX12_clusterAt_29 : decode cX12_clusterAt 29 = .ok (.iconst 1, 1) := by decide +kernel
theorem dX12_clusterAt_30 : decode cX12_clusterAt 30 = .ok (.goto 4, 3) := by decide +kernel
theorem dX12_clusterAt_33 : decode cX12_clusterAt 33 = .ok (.iconst 0, 1) := by decide +kernel
theorem dX12_clusterAt_34 : decode cX12_clusterAt 34 = .ok (.istore 5, 2) := by decide +kernel
theorem dX12_clusterAt_36 : decode cX12_clusterAt 36 = .ok (.iload 5, 2) := by decide +kernel
theorem dX12_clusterAt_38 : decode cX12_clusterAt 38 = .ok (.ifCond .ne 8, 3) := by decide +kernel
theorem dX12_clusterAt_41 : decode cX12_clusterAt 41 = .ok (.iload_n 3, 1) := by decide +kernel
theorem dX12_clusterAt_42 : decode cX12_clusterAt 42 = .ok (.iconst (-1), 1) := by decide +kernel
theorem dX12_clusterAt_43 : decode cX12_clusterAt 43 = .ok (.if_icmp .ne 9, 3) := by decide +kernel
theorem dX12_clusterAt_46 : decode cX12_clusterAt 46 = .ok (.iload_n 3, 1) := by decide +kernel
theorem dX12_clusterAt_47 : decode cX12_clusterAt 47 = .ok (.iconst 1, 1) := by decide +kernel
theorem dX12_clusterAt_48 : decode cX12_clusterAt 48 = .ok (.iadd, 1) := by decide +kernel
theorem dX12_clusterAt_49 : decode cX12_clusterAt 49 = .ok (.goto 4, 3) := by decide +kernel
theorem dX12_clusterAt_52 : decode cX12_clusterAt 52 = .ok (.iload_n 3, 1) := by decide +kernel
theorem dX12_clusterAt_53 : decode cX12_clusterAt 53 = .ok (.istore_n 3, 1) := by decide +kernel
theorem dX12_clusterAt_54 : decode cX12_clusterAt 54 = .ok (.iinc 4 1, 3) := by decide +kernel
theorem dX12_clusterAt_57 : decode cX12_clusterAt 57 = .ok (.goto (-52), 3) := by decide +kernel
theorem dX12_clusterAt_60 : decode cX12_clusterAt 60 = .ok (.iload_n 3, 1) := by decide +kernel
theorem dX12_clusterAt_61 : decode cX12_clusterAt 61 = .ok (.ireturn, 1) := by decide +kernel
set_option maxRecDepth 100000 in
theorem t_X12_clusterAt_34 (G : MG) (hG : (g_l G).stackTraces = false) (d : Nat) (hd : 3 ≤ d)   (σ : MsSt) (k5 : Nat → Int32 → Int32 → Int32 → Int32 → Option (Int32)) (hk5 : ∀ (x1 : Nat) (x2 : Int32) (x3 : Int32) (x4 : Int32) (x5 : Int32), ms_kd x1 = 13 → TrO G mX12_clusterAt d 0 0 0 0 (ms_ki σ) 5 [(0, .ref x1), (1, .int x2), (2, .int x3), (3, .int x4), (4, .int x5)] [] σ (k5 x1 x2 x3 x4 x5)) (l0 : Nat) (l1 : Int32) (l2 : Int32) (l3 : Int32) (l4 : Int32) (t0 : Int32) (h0 : ms_kd l0 = 13) : TrO G mX12_clusterAt d 0 0 0 0 (ms_ki σ) 34 [(0, .ref l0), (1, .int l1), (2, .int l2), (3, .int l3), (4, .int l4)] [.int t0] σ (f_X12_clusterAt_34 σ k5 l0 l1 l2 l3 l4 t0) := by
  show TrO G mX12_clusterAt d 0 0 0 0 (ms_ki σ) 34 [(0, .ref l0), (1, .int l1), (2, .int l2), (3, .int l3), (4, .int l4)] [.int t0] σ (if t0 = 0 then if l3 = (-1) then k5 l0 l1 l2 (l3 + 1) (l4 + 1) else k5 l0 l1 l2 l3 (l4 + 1) else k5 l0 l1 l2 (l3 + 1) (l4 + 1))
  refine tr_istore (lv' := [(0, .ref l0), (1, .int l1), (2, .int l2), (3, .int l3), (4, .int l4), (5, .int t0)]) [1, 2, 3, 4, 5, 0] dX12_clusterAt_34 (by decide) rfl ?_
  refine tr_iload (i := 5) dX12_clusterAt_36 rfl ?_
  refine tr_ifne (o := none) (tgt := 46) dX12_clusterAt_38 (by decide) ?_ ?_
  · refine tr_iload_n (i := 3) dX12_clusterAt_46 rfl ?_
    refine tr_iconst (v := 1) dX12_clusterAt_47 (by decide +kernel) ?_
    refine tr_iadd dX12_clusterAt_48 ?_
    refine tr_goto (tgt := 53) dX12_clusterAt_49 (by decide) ?_
    refine tr_istore_n (lv' := [(0, .ref l0), (1, .int l1), (2, .int l2), (3, .int (l3 + 1)), (4, .int l4)]) [1, 2, 3, 0, 4] dX12_clusterAt_53 (by decide) rfl ?_
    refine tr_iinc (k := 4) (v := (l4 + 1)) (lv' := [(0, .ref l0), (1, .int l1), (2, .int l2), (3, .int (l3 + 1)), (4, .int (l4 + 1))]) [1, 2, 3, 4, 0] dX12_clusterAt_54 rfl rfl (by decide) rfl ?_
    refine tr_goto (tgt := 5) dX12_clusterAt_57 (by decide) ?_
    exact hk5 l0 l1 l2 (l3 + 1) (l4 + 1) h0
  · refine tr_iload_n (i := 3) dX12_clusterAt_41 rfl ?_
    refine tr_iconst (v := (-1)) dX12_clusterAt_42 (by decide +kernel) ?_
    refine tr_icne (o := none) (tgt := 52) dX12_clusterAt_43 (by decide) ?_ ?_
    · refine tr_iload_n (i := 3) dX12_clusterAt_52 rfl ?_
      refine tr_istore_n (lv' := [(0, .ref l0), (1, .int l1), (2, .int l2), (3, .int l3), (4, .int l4)]) [1, 2, 3, 0, 4] dX12_clusterAt_53 (by decide) rfl ?_
      refine tr_iinc (k := 4) (v := (l4 + 1)) (lv' := [(0, .ref l0), (1, .int l1), (2, .int l2), (3, .int l3), (4, .int (l4 + 1))]) [1, 2, 3, 4, 0] dX12_clusterAt_54 rfl rfl (by decide) rfl ?_
      refine tr_goto (tgt := 5) dX12_clusterAt_57 (by decide) ?_
      exact hk5 l0 l1 l2 l3 (l4 + 1) h0
    · refine tr_iload_n (i := 3) dX12_clusterAt_46 rfl ?_
      refine tr_iconst (v := 1) dX12_clusterAt_47 (by decide +kernel) ?_
      refine tr_iadd dX12_clusterAt_48 ?_
      refine tr_goto (tgt := 53) dX12_clusterAt_49 (by decide) ?_
      refine tr_istore_n (lv' := [(0, .ref l0), (1, .int l1), (2, .int l2), (3, .int (l3 + 1)), (4, .int l4)]) [1, 2, 3, 0, 4] dX12_clusterAt_53 (by decide) rfl ?_
      refine tr_iinc (k := 4) (v := (l4 + 1)) (lv' := [(0, .ref l0), (1, .int l1), (2, .int l2), (3, .int (l3 + 1)), (4, .int (l4 + 1))]) [1, 2, 3, 4, 0] dX12_clusterAt_54 rfl rfl (by decide) rfl ?_
      refine tr_goto (tgt := 5) dX12_clusterAt_57 (by decide) ?_
      exact hk5 l0 l1 l2 (l3 + 1) (l4 + 1) h0
set_option maxRecDepth 100000 in
theorem t_X12_clusterAt_5 (G : MG) (hG : (g_l G).stackTraces = false) (d : Nat) (hd : 3 ≤ d)   (σ : MsSt)  : ∀ (n : Nat) (l0 : Nat) (l1 : Int32) (l2 : Int32) (l3 : Int32) (l4 : Int32) (h0 : ms_kd l0 = 13), TrO G mX12_clusterAt d 0 0 0 0 (ms_ki σ) 5 [(0, .ref l0), (1, .int l1), (2, .int l2), (3, .int l3), (4, .int l4)] [] σ (f_X12_clusterAt_5 σ n l0 l1 l2 l3 l4) := by
  intro n
  induction n with
  | zero => exact fun _ _ _ _ _ _ => tr_none
  | succ n ih =>
    intro l0 l1 l2 l3 l4 h0
    show TrO G mX12_clusterAt d 0 0 0 0 (ms_ki σ) 5 [(0, .ref l0), (1, .int l1), (2, .int l2), (3, .int l3), (4, .int l4)] [] σ (if l2 < l4 then some l3 else (f_X12_spot σ l1 l4).bind fun v1 => (ms_ald σ (ms_rf l0 0) v1).bind fun v2 => (f_X12_isMark σ l0 v2).bind fun v3 => if v3 = 0 then f_X12_clusterAt_34 σ (f_X12_clusterAt_5 σ n) l0 l1 l2 l3 l4 1 else f_X12_clusterAt_34 σ (f_X12_clusterAt_5 σ n) l0 l1 l2 l3 l4 0)
    refine tr_iload (i := 4) dX12_clusterAt_5 rfl ?_
    refine tr_iload_n (i := 2) dX12_clusterAt_7 rfl ?_
    refine tr_icgt (o := none) (tgt := 60) dX12_clusterAt_8 (by decide) ?_ ?_
    · refine tr_iload_n (i := 3) dX12_clusterAt_60 rfl ?_
      exact tr_iret rfl rfl (by decide) (by decide) dX12_clusterAt_61
    · refine tr_aload_n (i := 0) dX12_clusterAt_11 rfl ?_
      refine tr_aload_n (i := 0) dX12_clusterAt_12 rfl ?_
      refine tr_getR 12 h0 fl_X12_9 (by decide +kernel) dX12_clusterAt_13 ?_
      refine tr_iload_n (i := 1) dX12_clusterAt_16 rfl ?_
      refine tr_iload (i := 4) dX12_clusterAt_17 rfl ?_
      refine tr_c_i (ms_cS (rest := [.ref (ms_rf l0 0), .ref l0]) (al := [.int l1, .int l4]) (sp_X12_spot G hG (d - 1) (by omega) σ l1 l4) kl_X12_149 fs_X12_spot dX12_clusterAt_19 (show _ = some 2 by decide +kernel) (by omega) (Nat.le_of_ble_eq_true rfl) (by decide) (by decide)) (fun v1 => ?_)
      refine tr_ald (rk_12_0 h0) dX12_clusterAt_22 (fun v2 => ?_)
      refine tr_c_i (ms_cV (rest := []) (al := [.int v2]) 12 (sp_X12_isMark G hG (d - 1) (by omega) σ l0 v2 h0) h0 (by decide +kernel) kl_X12_135 fv_X12_isMark dX12_clusterAt_23 (show _ = some 1 by decide +kernel) (by omega) (Nat.le_of_ble_eq_true rfl) (by decide) (by decide)) (fun v3 => ?_)
      refine tr_ifne (o := none) (tgt := 33) dX12_clusterAt_26 (by decide) ?_ ?_
      · refine tr_iconst (v := 0) dX12_clusterAt_33 (by decide +kernel) ?_
        exact t_X12_clusterAt_34 G hG d hd σ (f_X12_clusterAt_5 σ n) (fun y0 y1 y2 y3 y4 g0 => ih y0 y1 y2 y3 y4 g0) l0 l1 l2 l3 l4 0 h0
      · refine tr_iconst (v := 1) dX12_clusterAt_29 (by decide +kernel) ?_
        refine tr_goto (tgt := 34) dX12_clusterAt_30 (by decide) ?_
        exact t_X12_clusterAt_34 G hG d hd σ (f_X12_clusterAt_5 σ n) (fun y0 y1 y2 y3 y4 g0 => ih y0 y1 y2 y3 y4 g0) l0 l1 l2 l3 l4 1 h0
set_option maxRecDepth 100000 in
theorem sp_X12_clusterAt (G : MG) (hG : (g_l G).stackTraces = false) (d : Nat) (hd : 3 ≤ d)   (σ : MsSt) (l0 : Nat) (l1 : Int32) (l2 : Int32) (h0 : ms_kd l0 = 13) : MsSpec G mX12_clusterAt d 0 0 [.ref l0, .int l1, .int l2] σ (ms_ki σ) (f_X12_clusterAt σ l0 l1 l2) := by
  refine ms_start (by decide +kernel) rfl rfl (Nat.le_of_ble_eq_true rfl) ?_
  show TrO G mX12_clusterAt d 0 0 0 0 (ms_ki σ) 0 [(0, .ref l0), (1, .int l1), (2, .int l2)] [] σ (f_X12_clusterAt_5 σ ms_fuel l0 l1 l2 (-1) 0)
  refine tr_iconst (v := (-1)) dX12_clusterAt_0 (by decide +kernel) ?_
  refine tr_istore_n (lv' := [(0, .ref l0), (1, .int l1), (2, .int l2), (3, .int (-1))]) [1, 2, 3, 0] dX12_clusterAt_1 (by decide) rfl ?_
  refine tr_iconst (v := 0) dX12_clusterAt_2 (by decide +kernel) ?_
  refine tr_istore (lv' := [(0, .ref l0), (1, .int l1), (2, .int l2), (3, .int (-1)), (4, .int 0)]) [1, 2, 3, 4, 0] dX12_clusterAt_3 (by decide) rfl ?_
  exact t_X12_clusterAt_5 G hG d hd σ ms_fuel l0 l1 l2 (-1) 0 h0
theorem dX12_clusterOf_0 : decode cX12_clusterOf 0 = .ok (.aload_n 0, 1) := by decide +kernel
theorem dX12_clusterOf_1 : decode cX12_clusterOf 1 = .ok (.aload_n 0, 1) := by decide +kernel
theorem dX12_clusterOf_2 : decode cX12_clusterOf 2 = .ok (.iload_n 1, 1) := by decide +kernel
theorem dX12_clusterOf_3 : decode cX12_clusterOf 3 = .ok (.iload_n 2, 1) := by decide +kernel
theorem dX12_clusterOf_4 : decode cX12_clusterOf 4 = .ok (.invokevirtual 274, 3) := by decide +kernel
theorem dX12_clusterOf_7 : decode cX12_clusterOf 7 = .ok (.ifCond .eq 7, 3) := by decide +kernel
theorem dX12_clusterOf_10 : decode cX12_clusterOf 10 = .ok (.iconst 0, 1) := by decide +kernel
theorem dX12_clusterOf_11 : decode cX12_clusterOf 11 = .ok (.goto 4, 3) := by decide +kernel
theorem dX12_clusterOf_14 : decode cX12_clusterOf 14 = .ok (.iconst 1, 1) := by decide +kernel
theorem dX12_clusterOf_15 : decode cX12_clusterOf 15 = .ok (.putfield 107, 3) := by decide +kernel
theorem dX12_clusterOf_18 : decode cX12_clusterOf 18 = .ok (.aload_n 0, 1) := by decide +kernel
theorem dX12_clusterOf_19 : decode cX12_clusterOf 19 = .ok (.getfield 107, 3) := by decide +kernel
theorem dX12_clusterOf_22 : decode cX12_clusterOf 22 = .ok (.ifCond .ne 12, 3) := by decide +kernel
theorem dX12_clusterOf_25 : decode cX12_clusterOf 25 = .ok (.aload_n 0, 1) := by decide +kernel
theorem dX12_clusterOf_26 : decode cX12_clusterOf 26 = .ok (.iload_n 1, 1) := by decide +kernel
theorem dX12_clusterOf_27 : decode cX12_clusterOf 27 = .ok (.iload_n 2, 1) := by decide +kernel
theorem dX12_clusterOf_28 : decode cX12_clusterOf 28 = .ok (.invokevirtual 277, 3) := by decide +kernel
theorem dX12_clusterOf_31 : decode cX12_clusterOf 31 = .ok (.goto 4, 3) := by decide +kernel
theorem dX12_clusterOf_34 : decode cX12_clusterOf 34 = .ok (.iconst 0, 1) := by decide +kernel
theorem dX12_clusterOf_35 : decode cX12_clusterOf 35 = .ok (.ireturn, 1) := by decide +kernel
set_option maxRecDepth 100000 in
theorem t_X12_clusterOf_15 (G : MG) (hG : (g_l G).stackTraces = false) (d : Nat) (hd : 4 ≤ d)    (σ : MsSt) (l0 : Nat) (l1 : Int32) (l2 : Int32) (t0 : Int32) (t1 : Nat) (h0 : ms_kd l0 = 13) (ht1 : ms_kd t1 = 13) : TrO G mX12_clusterOf d 0 0 0 0 ms_wi 15 [(0, .ref l0), (1, .int l1), (2, .int l2)] [.int t0, .ref t1] σ (f_X12_clusterOf_15 σ l0 l1 l2 t0 t1) := by
  show TrO G mX12_clusterOf d 0 0 0 0 ms_wi 15 [(0, .ref l0), (1, .int l1), (2, .int l2)] [.int t0, .ref t1] σ (ms_nm (ms_si σ t1 7 t0) fun s2 => if (ms_i s2 l0 7) = 0 then (f_X12_clusterAt s2 l0 l1 l2).bind fun v3 => some (v3, s2) else some (0, s2))
  refine tr_putI 12 ht1 fl_X12_107 (by decide +kernel) dX12_clusterOf_15 ?_
  refine ms_ltS (fun s2 => ?_)
  refine tr_aload_n (i := 0) dX12_clusterOf_18 rfl ?_
  refine tr_getI 12 h0 fl_X12_107 (by decide +kernel) dX12_clusterOf_19 ?_
  refine tr_ifne (o := none) (tgt := 34) dX12_clusterOf_22 (by decide) ?_ ?_
  · refine tr_iconst (v := 0) dX12_clusterOf_34 (by decide +kernel) ?_
    exact tr_iret rfl rfl (by decide) (by decide) dX12_clusterOf_35
  · refine tr_aload_n (i := 0) dX12_clusterOf_25 rfl ?_
    refine tr_iload_n (i := 1) dX12_clusterOf_26 rfl ?_
    refine tr_iload_n (i := 2) dX12_clusterOf_27 rfl ?_
    refine tr_c_i (ms_cV (rest := []) (al := [.int l1, .int l2]) 12 (sp_X12_clusterAt G hG (d - 1) (by omega) s2 l0 l1 l2 h0) h0 (by decide +kernel) kl_X12_277 fv_X12_clusterAt dX12_clusterOf_28 (show _ = some 2 by decide +kernel) (by omega) (Nat.le_of_ble_eq_true rfl) (by decide) (by decide)) (fun v3 => ?_)
    refine tr_goto (tgt := 35) dX12_clusterOf_31 (by decide) ?_
    exact tr_iret rfl rfl (by decide) (by decide) dX12_clusterOf_35
set_option maxRecDepth 100000 in
theorem sp_X12_clusterOf (G : MG) (hG : (g_l G).stackTraces = false) (d : Nat) (hd : 4 ≤ d)   (σ : MsSt) (l0 : Nat) (l1 : Int32) (l2 : Int32) (h0 : ms_kd l0 = 13) : MsSpec G mX12_clusterOf d 0 0 [.ref l0, .int l1, .int l2] σ ms_wi (f_X12_clusterOf σ l0 l1 l2) := by
  refine ms_start (by decide +kernel) rfl rfl (Nat.le_of_ble_eq_true rfl) ?_
  show TrO G mX12_clusterOf d 0 0 0 0 ms_wi 0 [(0, .ref l0), (1, .int l1), (2, .int l2)] [] σ ((f_X12_isPlace σ l0 l1 l2).bind fun v1 => if v1 = 0 then f_X12_clusterOf_15 σ l0 l1 l2 1 l0 else f_X12_clusterOf_15 σ l0 l1 l2 0 l0)
  refine tr_aload_n (i := 0) dX12_clusterOf_0 rfl ?_
  refine tr_aload_n (i := 0) dX12_clusterOf_1 rfl ?_
  refine tr_iload_n (i := 1) dX12_clusterOf_2 rfl ?_
  refine tr_iload_n (i := 2) dX12_clusterOf_3 rfl ?_
  refine tr_c_i (ms_cV (rest := [.ref l0]) (al := [.int l1, .int l2]) 12 (sp_X12_isPlace G hG (d - 1) (by omega) σ l0 l1 l2 h0) h0 (by decide +kernel) kl_X12_274 fv_X12_isPlace dX12_clusterOf_4 (show _ = some 2 by decide +kernel) (by omega) (Nat.le_of_ble_eq_true rfl) (by decide) (by decide)) (fun v1 => ?_)
  refine tr_ifeq (o := none) (tgt := 14) dX12_clusterOf_7 (by decide) ?_ ?_
  · refine tr_iconst (v := 1) dX12_clusterOf_14 (by decide +kernel) ?_
    exact t_X12_clusterOf_15 G hG d hd σ l0 l1 l2 1 l0 h0 h0
  · refine tr_iconst (v := 0) dX12_clusterOf_10 (by decide +kernel) ?_
    refine tr_goto (tgt := 15) dX12_clusterOf_11 (by decide) ?_
    exact t_X12_clusterOf_15 G hG d hd σ l0 l1 l2 0 l0 h0 h0
theorem dX12_composedOf_0 : decode cX12_composedOf 0 = .ok (.aload_n 0, 1) := by decide +kernel
theorem dX12_composedOf_1 : decode cX12_composedOf 1 = .ok (.invokevirtual 165, 3) := by decide +kernel
theorem dX12_composedOf_4 : decode cX12_composedOf 4 = .ok (.iconst 0, 1) := by decide +kernel
theorem dX12_composedOf_5 : decode cX12_composedOf 5 = .ok (.istore_n 2, 1) := by decide +kernel
theorem dX12_composedOf_6 : decode cX12_composedOf 6 = .ok (.iconst 0, 1) := by decide +kernel
theorem dX12_composedOf_7 : decode cX12_composedOf 7 = .ok (.istore_n 3, 1) := by decide +kernel
theorem dX12_composedOf_8 : decode cX12_composedOf 8 = .ok (.iload_n 3, 1) := by decide +kernel
theorem dX12_composedOf_9 : decode cX12_composedOf 9 = .ok (.aload_n 0, 1) := by decide +kernel
theorem dX12_composedOf_10 : decode cX12_composedOf 10 = .ok (.getfield 155, 3) := by decide +kernel
theorem dX12_composedOf_13 : decode cX12_composedOf 13 = .ok (.if_icmp .ge 27, 3) := by decide +kernel
theorem dX12_composedOf_16 : decode cX12_composedOf 16 = .ok (.iload_n 2, 1) := by decide +kernel
theorem dX12_composedOf_17 : decode cX12_composedOf 17 = .ok (.aload_n 0, 1) := by decide +kernel
theorem dX12_composedOf_18 : decode cX12_composedOf 18 = .ok (.getfield 37, 3) := by decide +kernel
theorem dX12_composedOf_21 : decode cX12_composedOf 21 = .ok (.iload_n 3, 1) := by decide +kernel
theorem dX12_composedOf_22 : decode cX12_composedOf 22 = .ok (.iaload, 1) := by decide +kernel
theorem dX12_composedOf_23 : decode cX12_composedOf 23 = .ok (.iload_n 1, 1) := by decide +kernel
theorem dX12_composedOf_24 : decode cX12_composedOf 24 = .ok (.if_icmp .ne 7, 3) := by decide +kernel
theorem dX12_composedOf_27 : decode cX12_composedOf 27 = .ok (.iconst 1, 1) := by decide +kernel
theorem dX12_composedOf_28 : decode cX12_composedOf 28 = .ok (.goto 4, 3) := by decide +kernel
theorem dX12_composedOf_31 : decode cX12_composedOf 31 = .ok (.iconst 0, 1) := by decide +kernel
theorem dX12_composedOf_32 : decode cX12_composedOf 32 = .ok (.iadd, 1) := by decide +kernel
theorem dX12_composedOf_33 : decode cX12_composedOf 33 = .ok (.istore_n 2, 1) := by decide +kernel
theorem dX12_composedOf_34 : decode cX12_composedOf 34 = .ok (.iinc 3 1, 3) := by decide +kernel
theorem dX12_composedOf_37 : decode cX12_composedOf 37 = .ok (.goto (-29), 3) := by decide +kernel
theorem dX12_composedOf_40 : decode cX12_composedOf 40 = .ok (.iload_n 2, 1) := by decide +kernel
theorem dX12_composedOf_41 : decode cX12_composedOf 41 = .ok (.ireturn, 1) := by decide +kernel
set_option maxRecDepth 100000 in
theorem t_X12_composedOf_8 (G : MG) (hG : (g_l G).stackTraces = false) (d : Nat) (hd : 4 ≤ d)    : ∀ (n : Nat) (σ : MsSt) (l0 : Nat) (l1 : Int32) (l2 : Int32) (l3 : Int32) (h0 : ms_kd l0 = 13), TrO G mX12_composedOf d 0 0 0 0 ms_wi 8 [(0, .ref l0), (1, .int l1), (2, .int l2), (3, .int l3)] [] σ (f_X12_composedOf_8 n σ l0 l1 l2 l3) := by
  intro n
  induction n with
  | zero => exact fun _ _ _ _ _ _ => tr_none
  | succ n ih =>
    intro σ l0 l1 l2 l3 h0
    show TrO G mX12_composedOf d 0 0 0 0 ms_wi 8 [(0, .ref l0), (1, .int l1), (2, .int l2), (3, .int l3)] [] σ (if l3 < (ms_i σ l0 15) then (ms_ald σ (ms_rf l0 14) l3).bind fun v2 => if v2 = l1 then (f_X12_composedOf_8 n) σ l0 l1 (l2 + 1) (l3 + 1) else (f_X12_composedOf_8 n) σ l0 l1 (l2 + 0) (l3 + 1) else some (l2, σ))
    refine tr_iload_n (i := 3) dX12_composedOf_8 rfl ?_
    refine tr_aload_n (i := 0) dX12_composedOf_9 rfl ?_
    refine tr_getI 12 h0 fl_X12_155 (by decide +kernel) dX12_composedOf_10 ?_
    refine tr_icge (o := none) (tgt := 40) dX12_composedOf_13 (by decide) ?_ ?_
    · refine tr_iload_n (i := 2) dX12_composedOf_40 rfl ?_
      exact tr_iret rfl rfl (by decide) (by decide) dX12_composedOf_41
    · refine tr_iload_n (i := 2) dX12_composedOf_16 rfl ?_
      refine tr_aload_n (i := 0) dX12_composedOf_17 rfl ?_
      refine tr_getR 12 h0 fl_X12_37 (by decide +kernel) dX12_composedOf_18 ?_
      refine tr_iload_n (i := 3) dX12_composedOf_21 rfl ?_
      refine tr_ald (rk_12_14 h0) dX12_composedOf_22 (fun v2 => ?_)
      refine tr_iload_n (i := 1) dX12_composedOf_23 rfl ?_
      refine tr_icne (o := none) (tgt := 31) dX12_composedOf_24 (by decide) ?_ ?_
      · refine tr_iconst (v := 0) dX12_composedOf_31 (by decide +kernel) ?_
        refine tr_iadd dX12_composedOf_32 ?_
        refine tr_istore_n (lv' := [(0, .ref l0), (1, .int l1), (2, .int (l2 + 0)), (3, .int l3)]) [1, 2, 0, 3] dX12_composedOf_33 (by decide) rfl ?_
        refine tr_iinc (k := 3) (v := (l3 + 1)) (lv' := [(0, .ref l0), (1, .int l1), (2, .int (l2 + 0)), (3, .int (l3 + 1))]) [1, 2, 3, 0] dX12_composedOf_34 rfl rfl (by decide) rfl ?_
        refine tr_goto (tgt := 8) dX12_composedOf_37 (by decide) ?_
        exact (fun s y0 y1 y2 y3 g0 => ih s y0 y1 y2 y3 g0) σ l0 l1 (l2 + 0) (l3 + 1) h0
      · refine tr_iconst (v := 1) dX12_composedOf_27 (by decide +kernel) ?_
        refine tr_goto (tgt := 32) dX12_composedOf_28 (by decide) ?_
        refine tr_iadd dX12_composedOf_32 ?_
        refine tr_istore_n (lv' := [(0, .ref l0), (1, .int l1), (2, .int (l2 + 1)), (3, .int l3)]) [1, 2, 0, 3] dX12_composedOf_33 (by decide) rfl ?_
        refine tr_iinc (k := 3) (v := (l3 + 1)) (lv' := [(0, .ref l0), (1, .int l1), (2, .int (l2 + 1)), (3, .int (l3 + 1))]) [1, 2, 3, 0] dX12_composedOf_34 rfl rfl (by decide) rfl ?_
        refine tr_goto (tgt := 8) dX12_composedOf_37 (by decide) ?_
        exact (fun s y0 y1 y2 y3 g0 => ih s y0 y1 y2 y3 g0) σ l0 l1 (l2 + 1) (l3 + 1) h0
set_option maxRecDepth 100000 in
theorem sp_X12_composedOf (G : MG) (hG : (g_l G).stackTraces = false) (d : Nat) (hd : 4 ≤ d)   (σ : MsSt) (l0 : Nat) (l1 : Int32) (h0 : ms_kd l0 = 13) : MsSpec G mX12_composedOf d 0 0 [.ref l0, .int l1] σ ms_wi (f_X12_composedOf σ l0 l1) := by
  refine ms_start (by decide +kernel) rfl rfl (Nat.le_of_ble_eq_true rfl) ?_
  show TrO G mX12_composedOf d 0 0 0 0 ms_wi 0 [(0, .ref l0), (1, .int l1)] [] σ ((f_X12_layComposed σ l0).bind fun s1 => f_X12_composedOf_8 ms_fuel s1 l0 l1 0 0)
  refine tr_aload_n (i := 0) dX12_composedOf_0 rfl ?_
  refine tr_c_wv (ms_cV (rest := []) (al := []) 12 (sp_X12_layComposed G hG (d - 1) (by omega) σ l0 h0) h0 (by decide +kernel) kl_X12_165 fv_X12_layComposed dX12_composedOf_1 (show _ = some 0 by decide +kernel) (by omega) (Nat.le_of_ble_eq_true rfl) (by decide) (by decide)) (fun s1 => ?_)
  refine tr_iconst (v := 0) dX12_composedOf_4 (by decide +kernel) ?_
  refine tr_istore_n (lv' := [(0, .ref l0), (1, .int l1), (2, .int 0)]) [1, 2, 0] dX12_composedOf_5 (by decide) rfl ?_
  refine tr_iconst (v := 0) dX12_composedOf_6 (by decide +kernel) ?_
  refine tr_istore_n (lv' := [(0, .ref l0), (1, .int l1), (2, .int 0), (3, .int 0)]) [1, 2, 3, 0] dX12_composedOf_7 (by decide) rfl ?_
  exact t_X12_composedOf_8 G hG d hd ms_fuel s1 l0 l1 0 0 h0
theorem dX12_cluster_0 : decode cX12_cluster 0 = .ok (.aload_n 0, 1) := by decide +kernel
theorem dX12_cluster_1 : decode cX12_cluster 1 = .ok (.iload_n 1, 1) := by decide +kernel
theorem dX12_cluster_2 : decode cX12_cluster 2 = .ok (.iload_n 2, 1) := by decide +kernel
theorem dX12_cluster_3 : decode cX12_cluster 3 = .ok (.invokevirtual 280, 3) := by decide +kernel
theorem dX12_cluster_6 : decode cX12_cluster 6 = .ok (.ifCond .eq 5, 3) := by decide +kernel
theorem dX12_cluster_9 : decode cX12_cluster 9 = .ok (.iconst 0, 1) := by decide +kernel
theorem dX12_cluster_10 : decode cX12_cluster 10 = .ok (.ireturn, 1) := by decide +kernel
theorem dX12_cluster_11 : decode cX12_cluster 11 = .ok (.aload_n 0, 1) := by decide +kernel
theorem dX12_cluster_12 : decode cX12_cluster 12 = .ok (.iload_n 2, 1) := by decide +kernel
theorem dX12_cluster_13 : decode cX12_cluster 13 = .ok (.aload_n 0, 1) := by decide +kernel
theorem dX12_cluster_14 : decode cX12_cluster 14 = .ok (.getfield 46, 3) := by decide +kernel
theorem dX12_cluster_17 : decode cX12_cluster 17 = .ok (.invokevirtual 215, 3) := by decide +kernel
theorem dX12_cluster_20 : decode cX12_cluster 20 = .ok (.iload_n 3, 1) := by decide +kernel
theorem dX12_cluster_21 : decode cX12_cluster 21 = .ok (.tableswitch 114 0 8 #[51, 57, 63, 70, 76, 84, 92, 100, 108], 51) := by decide +kernel
theorem dX12_cluster_72 : decode cX12_cluster 72 = .ok (.aload_n 0, 1) := by decide +kernel
theorem dX12_cluster_73 : decode cX12_cluster 73 = .ok (.iload_n 2, 1) := by decide +kernel
theorem dX12_cluster_74 : decode cX12_cluster 74 = .ok (.invokevirtual 171, 3) := by decide +kernel
theorem dX12_cluster_77 : decode cX12_cluster 77 = .ok (.ireturn, 1) := by decide +kernel
theorem dX12_cluster_78 : decode cX12_cluster 78 = .ok (.aload_n 0, 1) := by decide +kernel
theorem dX12_cluster_79 : decode cX12_cluster 79 = .ok (.iload_n 2, 1) := by decide +kernel
theorem dX12_cluster_80 : decode cX12_cluster 80 = .ok (.invokevirtual 186, 3) := by decide +kernel
theorem dX12_cluster_83 : decode cX12_cluster 83 = .ok (.ireturn, 1) := by decide +kernel
theorem dX12_cluster_84 : decode cX12_cluster 84 = .ok (.aload_n 0, 1) := by decide +kernel
theorem dX12_cluster_85 : decode cX12_cluster 85 = .ok (.getfield 40, 3) := by decide +kernel
theorem dX12_cluster_88 : decode cX12_cluster 88 = .ok (.iload_n 2, 1) := by decide +kernel
theorem dX12_cluster_89 : decode cX12_cluster 89 = .ok (.iaload, 1) := by decide +kernel
theorem dX12_cluster_90 : decode cX12_cluster 90 = .ok (.ireturn, 1) := by decide +kernel
theorem dX12_cluster_91 : decode cX12_cluster 91 = .ok (.aload_n 0, 1) := by decide +kernel
theorem dX12_cluster_92 : decode cX12_cluster 92 = .ok (.iload_n 2, 1) := by decide +kernel
theorem dX12_cluster_93 : decode cX12_cluster 93 = .ok (.invokevirtual 241, 3) := by decide +kernel
theorem dX12_cluster_96 : decode cX12_cluster 96 = .ok (.ireturn, 1) := by decide +kernel
theorem dX12_cluster_97 : decode cX12_cluster 97 = .ok (.aload_n 0, 1) := by decide +kernel
theorem dX12_cluster_98 : decode cX12_cluster 98 = .ok (.getfield 46, 3) := by decide +kernel
theorem dX12_cluster_101 : decode cX12_cluster 101 = .ok (.getfield 192, 3) := by decide +kernel
theorem dX12_cluster_104 : decode cX12_cluster 104 = .ok (.ireturn, 1) := by decide +kernel
theorem dX12_cluster_105 : decode cX12_cluster 105 = .ok (.aload_n 0, 1) := by decide +kernel
theorem dX12_cluster_106 : decode cX12_cluster 106 = .ok (.getfield 46, 3) := by decide +kernel
theorem dX12_cluster_109 : decode cX12_cluster 109 = .ok (.getfield 195, 3) := by decide +kernel
theorem dX12_cluster_112 : decode cX12_cluster 112 = .ok (.ireturn, 1) := by decide +kernel
theorem dX12_cluster_113 : decode cX12_cluster 113 = .ok (.aload_n 0, 1) := by decide +kernel
theorem dX12_cluster_114 : decode cX12_cluster 114 = .ok (.getfield 46, 3) := by decide +kernel
theorem dX12_cluster_117 : decode cX12_cluster 117 = .ok (.getfield 198, 3) := by decide +kernel
theorem dX12_cluster_120 : decode cX12_cluster 120 = .ok (.ireturn, 1) := by decide +kernel
theorem dX12_cluster_121 : decode cX12_cluster 121 = .ok (.aload_n 0, 1) := by decide +kernel
theorem dX12_cluster_122 : decode cX12_cluster 122 = .ok (.getfield 46, 3) := by decide +kernel
theorem dX12_cluster_125 : decode cX12_cluster 125 = .ok (.getfield 201, 3) := by decide +kernel
theorem dX12_cluster_128 : decode cX12_cluster 128 = .ok (.ireturn, 1) := by decide +kernel
theorem dX12_cluster_129 : decode cX12_cluster 129 = .ok (.aload_n 0, 1) := by decide +kernel
theorem dX12_cluster_130 : decode cX12_cluster 130 = .ok (.iload_n 2, 1) := by decide +kernel
theorem dX12_cluster_131 : decode cX12_cluster 131 = .ok (.invokevirtual 283, 3) := by decide +kernel
theorem dX12_cluster_134 : decode cX12_cluster 134 = .ok (.ireturn, 1) := by decide +kernel
theorem dX12_cluster_135 : decode cX12_cluster 135 = .ok (.aload_n 0, 1) := by decide +kernel
theorem dX12_cluster_136 : decode cX12_cluster 136 = .ok (.iconst 1, 1) := by decide +kernel
theorem dX12_cluster_137 : decode cX12_cluster 137 = .ok (.invokevirtual 230, 3) := by decide +kernel
theorem dX12_cluster_140 : decode cX12_cluster 140 = .ok (.ireturn, 1) := by decide +kernel
set_option maxRecDepth 100000 in
theorem sp_X12_cluster (G : MG) (hG : (g_l G).stackTraces = false) (d : Nat) (hd : 9 ≤ d)   (σ : MsSt) (l0 : Nat) (l1 : Int32) (l2 : Int32) (l3 : Int32) (h0 : ms_kd l0 = 13) : MsSpec G mX12_cluster d 0 0 [.ref l0, .int l1, .int l2, .int l3] σ ms_wi (f_X12_cluster σ l0 l1 l2 l3) := by
  refine ms_start (by decide +kernel) rfl rfl (Nat.le_of_ble_eq_true rfl) ?_
  show TrO G mX12_cluster d 0 0 0 0 ms_wi 0 [(0, .ref l0), (1, .int l1), (2, .int l2), (3, .int l3)] [] σ (ms_b2 (f_X12_noCluster σ l0 l1 l2) fun v1 s2 => if v1 = 0 then (f_X12_layBoxes s2 l0 l2 (ms_rf l0 18)).bind fun s3 => if l3 = 0 then (f_X12_baseOf s3 l0 l2).bind fun v6 => some (v6, s3) else if l3 = 1 then (f_X12_marksOf s3 l0 l2).bind fun v7 => some (v7, s3) else if l3 = 2 then (ms_ald s3 (ms_rf l0 16) l2).bind fun v8 => some (v8, s3) else if l3 = 3 then (f_X12_penOf s3 l0 l2).bind fun v9 => some (v9, s3) else if l3 = 4 then some ((ms_i s3 (ms_rf l0 18) 2), s3) else if l3 = 5 then some ((ms_i s3 (ms_rf l0 18) 3), s3) else if l3 = 6 then some ((ms_i s3 (ms_rf l0 18) 4), s3) else if l3 = 7 then some ((ms_i s3 (ms_rf l0 18) 5), s3) else if l3 = 8 then ms_b2 (f_X12_composedOf s3 l0 l2) fun v10 s11 => some (v10, s11) else ms_b2 (f_X12_raise s3 l0 1) fun v4 s5 => some (v4, s5) else some (0, s2))
  refine tr_aload_n (i := 0) dX12_cluster_0 rfl ?_
  refine tr_iload_n (i := 1) dX12_cluster_1 rfl ?_
  refine tr_iload_n (i := 2) dX12_cluster_2 rfl ?_
  refine tr_d_wi (ms_cV (rest := []) (al := [.int l1, .int l2]) 12 (sp_X12_noCluster G hG (d - 1) (by omega) σ l0 l1 l2 h0) h0 (by decide +kernel) kl_X12_280 fv_X12_noCluster dX12_cluster_3 (show _ = some 2 by decide +kernel) (by omega) (Nat.le_of_ble_eq_true rfl) (by decide) (by decide)) (fun v1 s2 => ?_)
  refine tr_ifeq (o := none) (tgt := 11) dX12_cluster_6 (by decide) ?_ ?_
  · refine tr_aload_n (i := 0) dX12_cluster_11 rfl ?_
    refine tr_iload_n (i := 2) dX12_cluster_12 rfl ?_
    refine tr_aload_n (i := 0) dX12_cluster_13 rfl ?_
    refine tr_getR 12 h0 fl_X12_46 (by decide +kernel) dX12_cluster_14 ?_
    refine tr_c_wv (ms_cV (rest := []) (al := [.int l2, .ref (ms_rf l0 18)]) 12 (sp_X12_layBoxes G hG (d - 1) (by omega) s2 l0 l2 (ms_rf l0 18) h0 (rk_12_18 h0)) h0 (by decide +kernel) kl_X12_215 fv_X12_layBoxes dX12_cluster_17 (show _ = some 2 by decide +kernel) (by omega) (Nat.le_of_ble_eq_true rfl) (by decide) (by decide)) (fun s3 => ?_)
    refine tr_iload_n (i := 3) dX12_cluster_20 rfl ?_
    refine tr_tsIn (tgt := 72) (off := 51) 0 dX12_cluster_21 (by decide +kernel) (by decide +kernel) (by decide +kernel) (by decide) ?_ (fun n0 => ?_)
    · refine tr_aload_n (i := 0) dX12_cluster_72 rfl ?_
      refine tr_iload_n (i := 2) dX12_cluster_73 rfl ?_
      refine tr_c_i (ms_cV (rest := []) (al := [.int l2]) 12 (sp_X12_baseOf G hG (d - 1) (by omega) s3 l0 l2 h0) h0 (by decide +kernel) kl_X12_171 fv_X12_baseOf dX12_cluster_74 (show _ = some 1 by decide +kernel) (by omega) (Nat.le_of_ble_eq_true rfl) (by decide) (by decide)) (fun v6 => ?_)
      exact tr_iret rfl rfl (by decide) (by decide) dX12_cluster_77
    refine tr_tsIn (tgt := 78) (off := 57) 1 dX12_cluster_21 (by decide +kernel) (by decide +kernel) (by decide +kernel) (by decide) ?_ (fun n1 => ?_)
    · refine tr_aload_n (i := 0) dX12_cluster_78 rfl ?_
      refine tr_iload_n (i := 2) dX12_cluster_79 rfl ?_
      refine tr_c_i (ms_cV (rest := []) (al := [.int l2]) 12 (sp_X12_marksOf G hG (d - 1) (by omega) s3 l0 l2 h0) h0 (by decide +kernel) kl_X12_186 fv_X12_marksOf dX12_cluster_80 (show _ = some 1 by decide +kernel) (by omega) (Nat.le_of_ble_eq_true rfl) (by decide) (by decide)) (fun v7 => ?_)
      exact tr_iret rfl rfl (by decide) (by decide) dX12_cluster_83
    refine tr_tsIn (tgt := 84) (off := 63) 2 dX12_cluster_21 (by decide +kernel) (by decide +kernel) (by decide +kernel) (by decide) ?_ (fun n2 => ?_)
    · refine tr_aload_n (i := 0) dX12_cluster_84 rfl ?_
      refine tr_getR 12 h0 fl_X12_40 (by decide +kernel) dX12_cluster_85 ?_
      refine tr_iload_n (i := 2) dX12_cluster_88 rfl ?_
      refine tr_ald (rk_12_16 h0) dX12_cluster_89 (fun v8 => ?_)
      exact tr_iret rfl rfl (by decide) (by decide) dX12_cluster_90
    refine tr_tsIn (tgt := 91) (off := 70) 3 dX12_cluster_21 (by decide +kernel) (by decide +kernel) (by decide +kernel) (by decide) ?_ (fun n3 => ?_)
    · refine tr_aload_n (i := 0) dX12_cluster_91 rfl ?_
      refine tr_iload_n (i := 2) dX12_cluster_92 rfl ?_
      refine tr_c_i (ms_cV (rest := []) (al := [.int l2]) 12 (sp_X12_penOf G hG (d - 1) (by omega) s3 l0 l2 h0) h0 (by decide +kernel) kl_X12_241 fv_X12_penOf dX12_cluster_93 (show _ = some 1 by decide +kernel) (by omega) (Nat.le_of_ble_eq_true rfl) (by decide) (by decide)) (fun v9 => ?_)
      exact tr_iret rfl rfl (by decide) (by decide) dX12_cluster_96
    refine tr_tsIn (tgt := 97) (off := 76) 4 dX12_cluster_21 (by decide +kernel) (by decide +kernel) (by decide +kernel) (by decide) ?_ (fun n4 => ?_)
    · refine tr_aload_n (i := 0) dX12_cluster_97 rfl ?_
      refine tr_getR 12 h0 fl_X12_46 (by decide +kernel) dX12_cluster_98 ?_
      refine tr_getI 11 (rk_12_18 h0) fl_X12_192 (by decide +kernel) dX12_cluster_101 ?_
      exact tr_iret rfl rfl (by decide) (by decide) dX12_cluster_104
    refine tr_tsIn (tgt := 105) (off := 84) 5 dX12_cluster_21 (by decide +kernel) (by decide +kernel) (by decide +kernel) (by decide) ?_ (fun n5 => ?_)
    · refine tr_aload_n (i := 0) dX12_cluster_105 rfl ?_
      refine tr_getR 12 h0 fl_X12_46 (by decide +kernel) dX12_cluster_106 ?_
      refine tr_getI 11 (rk_12_18 h0) fl_X12_195 (by decide +kernel) dX12_cluster_109 ?_
      exact tr_iret rfl rfl (by decide) (by decide) dX12_cluster_112
    refine tr_tsIn (tgt := 113) (off := 92) 6 dX12_cluster_21 (by decide +kernel) (by decide +kernel) (by decide +kernel) (by decide) ?_ (fun n6 => ?_)
    · refine tr_aload_n (i := 0) dX12_cluster_113 rfl ?_
      refine tr_getR 12 h0 fl_X12_46 (by decide +kernel) dX12_cluster_114 ?_
      refine tr_getI 11 (rk_12_18 h0) fl_X12_198 (by decide +kernel) dX12_cluster_117 ?_
      exact tr_iret rfl rfl (by decide) (by decide) dX12_cluster_120
    refine tr_tsIn (tgt := 121) (off := 100) 7 dX12_cluster_21 (by decide +kernel) (by decide +kernel) (by decide +kernel) (by decide) ?_ (fun n7 => ?_)
    · refine tr_aload_n (i := 0) dX12_cluster_121 rfl ?_
      refine tr_getR 12 h0 fl_X12_46 (by decide +kernel) dX12_cluster_122 ?_
      refine tr_getI 11 (rk_12_18 h0) fl_X12_201 (by decide +kernel) dX12_cluster_125 ?_
      exact tr_iret rfl rfl (by decide) (by decide) dX12_cluster_128
    refine tr_tsIn (tgt := 129) (off := 108) 8 dX12_cluster_21 (by decide +kernel) (by decide +kernel) (by decide +kernel) (by decide) ?_ (fun n8 => ?_)
    · refine tr_aload_n (i := 0) dX12_cluster_129 rfl ?_
      refine tr_iload_n (i := 2) dX12_cluster_130 rfl ?_
      refine tr_d_wi (ms_cV (rest := []) (al := [.int l2]) 12 (sp_X12_composedOf G hG (d - 1) (by omega) s3 l0 l2 h0) h0 (by decide +kernel) kl_X12_283 fv_X12_composedOf dX12_cluster_131 (show _ = some 1 by decide +kernel) (by omega) (Nat.le_of_ble_eq_true rfl) (by decide) (by decide)) (fun v10 s11 => ?_)
      exact tr_iret rfl rfl (by decide) (by decide) dX12_cluster_134
    refine tr_tsOut (tgt := 135) dX12_cluster_21 ?_ (by decide) ?_
    · have q0 := lv_neT (a := 0) n0 (by decide +kernel); have q1 := lv_neT (a := 1) n1 (by decide +kernel); have q2 := lv_neT (a := 2) n2 (by decide +kernel); have q3 := lv_neT (a := 3) n3 (by decide +kernel); have q4 := lv_neT (a := 4) n4 (by decide +kernel); have q5 := lv_neT (a := 5) n5 (by decide +kernel); have q6 := lv_neT (a := 6) n6 (by decide +kernel); have q7 := lv_neT (a := 7) n7 (by decide +kernel); have q8 := lv_neT (a := 8) n8 (by decide +kernel); omega
    refine tr_aload_n (i := 0) dX12_cluster_135 rfl ?_
    refine tr_iconst (v := 1) dX12_cluster_136 (by decide +kernel) ?_
    refine tr_d_wi (ms_cV (rest := []) (al := [.int 1]) 12 (sp_X12_raise G hG (d - 1) (by omega) s3 l0 1 h0) h0 (by decide +kernel) kl_X12_230 fv_X12_raise dX12_cluster_137 (show _ = some 1 by decide +kernel) (by omega) (Nat.le_of_ble_eq_true rfl) (by decide) (by decide)) (fun v4 s5 => ?_)
    exact tr_iret rfl rfl (by decide) (by decide) dX12_cluster_140
  · refine tr_iconst (v := 0) dX12_cluster_9 (by decide +kernel) ?_
    exact tr_iret rfl rfl (by decide) (by decide) dX12_cluster_10
theorem dX12_box_0 : decode cX12_box 0 = .ok (.aload_n 0, 1) := by decide +kernel
theorem dX12_box_1 : decode cX12_box 1 = .ok (.iload_n 1, 1) := by decide +kernel
theorem dX12_box_2 : decode cX12_box 2 = .ok (.iload_n 2, 1) := by decide +kernel
theorem dX12_box_3 : decode cX12_box 3 = .ok (.invokevirtual 280, 3) := by decide +kernel
theorem dX12_box_6 : decode cX12_box 6 = .ok (.ifCond .eq 5, 3) := by decide +kernel
theorem dX12_box_9 : decode cX12_box 9 = .ok (.iconst 0, 1) := by decide +kernel
theorem dX12_box_10 : decode cX12_box 10 = .ok (.ireturn, 1) := by decide +kernel
theorem dX12_box_11 : decode cX12_box 11 = .ok (.iload_n 3, 1) := by decide +kernel
theorem dX12_box_12 : decode cX12_box 12 = .ok (.i2l, 1) := by decide +kernel
theorem dX12_box_13 : decode cX12_box 13 = .ok (.lconst 0, 1) := by decide +kernel
theorem dX12_box_14 : decode cX12_box 14 = .ok (.aload_n 0, 1) := by decide +kernel
theorem dX12_box_15 : decode cX12_box 15 = .ok (.iload_n 2, 1) := by decide +kernel
theorem dX12_box_16 : decode cX12_box 16 = .ok (.invokevirtual 186, 3) := by decide +kernel
theorem dX12_box_19 : decode cX12_box 19 = .ok (.iconst 1, 1) := by decide +kernel
theorem dX12_box_20 : decode cX12_box 20 = .ok (.isub, 1) := by decide +kernel
theorem dX12_box_21 : decode cX12_box 21 = .ok (.i2l, 1) := by decide +kernel
theorem dX12_box_22 : decode cX12_box 22 = .ok (.invokestatic 110, 3) := by decide +kernel
theorem dX12_box_25 : decode cX12_box 25 = .ok (.ifCond .eq 16, 3) := by decide +kernel
theorem dX12_box_28 : decode cX12_box 28 = .ok (.iload 4, 2) := by decide +kernel
theorem dX12_box_30 : decode cX12_box 30 = .ok (.i2l, 1) := by decide +kernel
theorem dX12_box_31 : decode cX12_box 31 = .ok (.lconst 0, 1) := by decide +kernel
theorem dX12_box_32 : decode cX12_box 32 = .ok (.ldc2_w 286, 3) := by decide +kernel
theorem dX12_box_35 : decode cX12_box 35 = .ok (.invokestatic 110, 3) := by decide +kernel
theorem dX12_box_38 : decode cX12_box 38 = .ok (.ifCond .ne 9, 3) := by decide +kernel
theorem dX12_box_41 : decode cX12_box 41 = .ok (.aload_n 0, 1) := by decide +kernel
theorem dX12_box_42 : decode cX12_box 42 = .ok (.iconst 1, 1) := by decide +kernel
theorem dX12_box_43 : decode cX12_box 43 = .ok (.invokevirtual 230, 3) := by decide +kernel
theorem dX12_box_46 : decode cX12_box 46 = .ok (.ireturn, 1) := by decide +kernel
theorem dX12_box_47 : decode cX12_box 47 = .ok (.aload_n 0, 1) := by decide +kernel
theorem dX12_box_48 : decode cX12_box 48 = .ok (.iload_n 2, 1) := by decide +kernel
theorem dX12_box_49 : decode cX12_box 49 = .ok (.aload_n 0, 1) := by decide +kernel
theorem dX12_box_50 : decode cX12_box 50 = .ok (.getfield 46, 3) := by decide +kernel
theorem dX12_box_53 : decode cX12_box 53 = .ok (.invokevirtual 215, 3) := by decide +kernel
theorem dX12_box_56 : decode cX12_box 56 = .ok (.iload 4, 2) := by decide +kernel
theorem dX12_box_58 : decode cX12_box 58 = .ok (.ifCond .ne 18, 3) := by decide +kernel
theorem dX12_box_61 : decode cX12_box 61 = .ok (.aload_n 0, 1) := by decide +kernel
theorem dX12_box_62 : decode cX12_box 62 = .ok (.getfield 31, 3) := by decide +kernel
theorem dX12_box_65 : decode cX12_box 65 = .ok (.aload_n 0, 1) := by decide +kernel
theorem dX12_box_66 : decode cX12_box 66 = .ok (.iload_n 2, 1) := by decide +kernel
theorem dX12_box_67 : decode cX12_box 67 = .ok (.invokevirtual 174, 3) := by decide +kernel
theorem dX12_box_70 : decode cX12_box 70 = .ok (.iload_n 3, 1) := by decide +kernel
theorem dX12_box_71 : decode cX12_box 71 = .ok (.iadd, 1) := by decide +kernel
theorem dX12_box_72 : decode cX12_box 72 = .ok (.iaload, 1) := by decide +kernel
theorem dX12_box_73 : decode cX12_box 73 = .ok (.goto 19, 3) := by decide +kernel
theorem dX12_box_76 : decode cX12_box 76 = .ok (.aload_n 0, 1) := by decide +kernel
theorem dX12_box_77 : decode cX12_box 77 = .ok (.getfield 46, 3) := by decide +kernel
theorem dX12_box_80 : decode cX12_box 80 = .ok (.getfield 204, 3) := by decide +kernel
theorem dX12_box_83 : decode cX12_box 83 = .ok (.iconst 4, 1) := by decide +kernel
theorem dX12_box_84 : decode cX12_box 84 = .ok (.iload_n 3, 1) := by decide +kernel
theorem dX12_box_85 : decode cX12_box 85 = .ok (.imul, 1) := by decide +kernel
theorem dX12_box_86 : decode cX12_box 86 = .ok (.iload 4, 2) := by decide +kernel
theorem dX12_box_88 : decode cX12_box 88 = .ok (.iadd, 1) := by decide +kernel
theorem dX12_box_89 : decode cX12_box 89 = .ok (.iconst 1, 1) := by decide +kernel
theorem dX12_box_90 : decode cX12_box 90 = .ok (.isub, 1) := by decide +kernel
theorem dX12_box_91 : decode cX12_box 91 = .ok (.iaload, 1) := by decide +kernel
theorem dX12_box_92 : decode cX12_box 92 = .ok (.ireturn, 1) := by decide +kernel
set_option maxRecDepth 100000 in
theorem sp_X12_box (G : MG) (hG : (g_l G).stackTraces = false) (d : Nat) (hd : 9 ≤ d)   (σ : MsSt) (l0 : Nat) (l1 : Int32) (l2 : Int32) (l3 : Int32) (l4 : Int32) (h0 : ms_kd l0 = 13) : MsSpec G mX12_box d 0 0 [.ref l0, .int l1, .int l2, .int l3, .int l4] σ ms_wi (f_X12_box σ l0 l1 l2 l3 l4) := by
  refine ms_start (by decide +kernel) rfl rfl (Nat.le_of_ble_eq_true rfl) ?_
  show TrO G mX12_box d 0 0 0 0 ms_wi 0 [(0, .ref l0), (1, .int l1), (2, .int l2), (3, .int l3), (4, .int l4)] [] σ (ms_b2 (f_X12_noCluster σ l0 l1 l2) fun v1 s2 => if v1 = 0 then (f_X12_marksOf s2 l0 l2).bind fun v3 => (f_X12_inRange s2 l3.toInt64 0 ((v3 - 1).toInt64)).bind fun v4 => if v4 = 0 then ms_b2 (f_X12_raise s2 l0 1) fun v5 s6 => some (v5, s6) else (f_X12_inRange s2 l4.toInt64 0 4).bind fun v7 => if v7 = 0 then ms_b2 (f_X12_raise s2 l0 1) fun v12 s13 => some (v12, s13) else (f_X12_layBoxes s2 l0 l2 (ms_rf l0 18)).bind fun s8 => if l4 = 0 then (f_X12_firstMark s8 l0 l2).bind fun v10 => (ms_ald s8 (ms_rf l0 10) (v10 + l3)).bind fun v11 => some (v11, s8) else (ms_ald s8 (ms_rf (ms_rf l0 18) 0) (((4 * l3) + l4) - 1)).bind fun v9 => some (v9, s8) else some (0, s2))
  refine tr_aload_n (i := 0) dX12_box_0 rfl ?_
  refine tr_iload_n (i := 1) dX12_box_1 rfl ?_
  refine tr_iload_n (i := 2) dX12_box_2 rfl ?_
  refine tr_d_wi (ms_cV (rest := []) (al := [.int l1, .int l2]) 12 (sp_X12_noCluster G hG (d - 1) (by omega) σ l0 l1 l2 h0) h0 (by decide +kernel) kl_X12_280 fv_X12_noCluster dX12_box_3 (show _ = some 2 by decide +kernel) (by omega) (Nat.le_of_ble_eq_true rfl) (by decide) (by decide)) (fun v1 s2 => ?_)
  refine tr_ifeq (o := none) (tgt := 11) dX12_box_6 (by decide) ?_ ?_
  · refine tr_iload_n (i := 3) dX12_box_11 rfl ?_
    refine tr_i2l dX12_box_12 ?_
    refine tr_lconst (v := 0) dX12_box_13 (by decide +kernel) ?_
    refine tr_aload_n (i := 0) dX12_box_14 rfl ?_
    refine tr_iload_n (i := 2) dX12_box_15 rfl ?_
    refine tr_c_i (ms_cV (rest := [.long 0, .long l3.toInt64]) (al := [.int l2]) 12 (sp_X12_marksOf G hG (d - 1) (by omega) s2 l0 l2 h0) h0 (by decide +kernel) kl_X12_186 fv_X12_marksOf dX12_box_16 (show _ = some 1 by decide +kernel) (by omega) (Nat.le_of_ble_eq_true rfl) (by decide) (by decide)) (fun v3 => ?_)
    refine tr_iconst (v := 1) dX12_box_19 (by decide +kernel) ?_
    refine tr_isub dX12_box_20 ?_
    refine tr_i2l dX12_box_21 ?_
    refine tr_c_i (ms_cS (rest := []) (al := [.long l3.toInt64, .long 0, .long ((v3 - 1).toInt64)]) (sp_X12_inRange G hG (d - 1) (by omega) s2 l3.toInt64 0 ((v3 - 1).toInt64)) kl_X12_110 fs_X12_inRange dX12_box_22 (show _ = some 3 by decide +kernel) (by omega) (Nat.le_of_ble_eq_true rfl) (by decide) (by decide)) (fun v4 => ?_)
    refine tr_ifeq (o := none) (tgt := 41) dX12_box_25 (by decide) ?_ ?_
    · refine tr_aload_n (i := 0) dX12_box_41 rfl ?_
      refine tr_iconst (v := 1) dX12_box_42 (by decide +kernel) ?_
      refine tr_d_wi (ms_cV (rest := []) (al := [.int 1]) 12 (sp_X12_raise G hG (d - 1) (by omega) s2 l0 1 h0) h0 (by decide +kernel) kl_X12_230 fv_X12_raise dX12_box_43 (show _ = some 1 by decide +kernel) (by omega) (Nat.le_of_ble_eq_true rfl) (by decide) (by decide)) (fun v5 s6 => ?_)
      exact tr_iret rfl rfl (by decide) (by decide) dX12_box_46
    · refine tr_iload (i := 4) dX12_box_28 rfl ?_
      refine tr_i2l dX12_box_30 ?_
      refine tr_lconst (v := 0) dX12_box_31 (by decide +kernel) ?_
      refine tr_ldcl (v := 4) (List.mem_of_getElem? (i := 1988) (by decide +kernel)) dX12_box_32 ?_
      refine tr_c_i (ms_cS (rest := []) (al := [.long l4.toInt64, .long 0, .long 4]) (sp_X12_inRange G hG (d - 1) (by omega) s2 l4.toInt64 0 4) kl_X12_110 fs_X12_inRange dX12_box_35 (show _ = some 3 by decide +kernel) (by omega) (Nat.le_of_ble_eq_true rfl) (by decide) (by decide)) (fun v7 => ?_)
      refine tr_ifne (o := none) (tgt := 47) dX12_box_38 (by decide) ?_ ?_
      · refine tr_aload_n (i := 0) dX12_box_47 rfl ?_
        refine tr_iload_n (i := 2) dX12_box_48 rfl ?_
        refine tr_aload_n (i := 0) dX12_box_49 rfl ?_
        refine tr_getR 12 h0 fl_X12_46 (by decide +kernel) dX12_box_50 ?_
        refine tr_c_wv (ms_cV (rest := []) (al := [.int l2, .ref (ms_rf l0 18)]) 12 (sp_X12_layBoxes G hG (d - 1) (by omega) s2 l0 l2 (ms_rf l0 18) h0 (rk_12_18 h0)) h0 (by decide +kernel) kl_X12_215 fv_X12_layBoxes dX12_box_53 (show _ = some 2 by decide +kernel) (by omega) (Nat.le_of_ble_eq_true rfl) (by decide) (by decide)) (fun s8 => ?_)
        refine tr_iload (i := 4) dX12_box_56 rfl ?_
        refine tr_ifne (o := none) (tgt := 76) dX12_box_58 (by decide) ?_ ?_
        · refine tr_aload_n (i := 0) dX12_box_76 rfl ?_
          refine tr_getR 12 h0 fl_X12_46 (by decide +kernel) dX12_box_77 ?_
          refine tr_getR 11 (rk_12_18 h0) fl_X12_204 (by decide +kernel) dX12_box_80 ?_
          refine tr_iconst (v := 4) dX12_box_83 (by decide +kernel) ?_
          refine tr_iload_n (i := 3) dX12_box_84 rfl ?_
          refine tr_imul dX12_box_85 ?_
          refine tr_iload (i := 4) dX12_box_86 rfl ?_
          refine tr_iadd dX12_box_88 ?_
          refine tr_iconst (v := 1) dX12_box_89 (by decide +kernel) ?_
          refine tr_isub dX12_box_90 ?_
          refine tr_ald (rk_11_0 (rk_12_18 h0)) dX12_box_91 (fun v9 => ?_)
          exact tr_iret rfl rfl (by decide) (by decide) dX12_box_92
        · refine tr_aload_n (i := 0) dX12_box_61 rfl ?_
          refine tr_getR 12 h0 fl_X12_31 (by decide +kernel) dX12_box_62 ?_
          refine tr_aload_n (i := 0) dX12_box_65 rfl ?_
          refine tr_iload_n (i := 2) dX12_box_66 rfl ?_
          refine tr_c_i (ms_cV (rest := [.ref (ms_rf l0 10)]) (al := [.int l2]) 12 (sp_X12_firstMark G hG (d - 1) (by omega) s8 l0 l2 h0) h0 (by decide +kernel) kl_X12_174 fv_X12_firstMark dX12_box_67 (show _ = some 1 by decide +kernel) (by omega) (Nat.le_of_ble_eq_true rfl) (by decide) (by decide)) (fun v10 => ?_)
          refine tr_iload_n (i := 3) dX12_box_70 rfl ?_
          refine tr_iadd dX12_box_71 ?_
          refine tr_ald (rk_12_10 h0) dX12_box_72 (fun v11 => ?_)
          refine tr_goto (tgt := 92) dX12_box_73 (by decide) ?_
          exact tr_iret rfl rfl (by decide) (by decide) dX12_box_92
      · refine tr_aload_n (i := 0) dX12_box_41 rfl ?_
        refine tr_iconst (v := 1) dX12_box_42 (by decide +kernel) ?_
        refine tr_d_wi (ms_cV (rest := []) (al := [.int 1]) 12 (sp_X12_raise G hG (d - 1) (by omega) s2 l0 1 h0) h0 (by decide +kernel) kl_X12_230 fv_X12_raise dX12_box_43 (show _ = some 1 by decide +kernel) (by omega) (Nat.le_of_ble_eq_true rfl) (by decide) (by decide)) (fun v12 s13 => ?_)
        exact tr_iret rfl rfl (by decide) (by decide) dX12_box_46
  · refine tr_iconst (v := 0) dX12_box_9 (by decide +kernel) ?_
    exact tr_iret rfl rfl (by decide) (by decide) dX12_box_10
theorem dX12_spellings_0 : decode cX12_spellings 0 = .ok (.aload_n 0, 1) := by decide +kernel
theorem dX12_spellings_1 : decode cX12_spellings 1 = .ok (.iload_n 1, 1) := by decide +kernel
theorem dX12_spellings_2 : decode cX12_spellings 2 = .ok (.iload_n 2, 1) := by decide +kernel
theorem dX12_spellings_3 : decode cX12_spellings 3 = .ok (.invokevirtual 280, 3) := by decide +kernel
theorem dX12_spellings_6 : decode cX12_spellings 6 = .ok (.ifCond .eq 5, 3) := by decide +kernel
theorem dX12_spellings_9 : decode cX12_spellings 9 = .ok (.lconst 0, 1) := by decide +kernel
theorem dX12_spellings_10 : decode cX12_spellings 10 = .ok (.lreturn, 1) := by decide +kernel
theorem dX12_spellings_11 : decode cX12_spellings 11 = .ok (.aload_n 0, 1) := by decide +kernel
theorem dX12_spellings_12 : decode cX12_spellings 12 = .ok (.iload_n 2, 1) := by decide +kernel
theorem dX12_spellings_13 : decode cX12_spellings 13 = .ok (.invokevirtual 186, 3) := by decide +kernel
theorem dX12_spellings_16 : decode cX12_spellings 16 = .ok (.istore_n 3, 1) := by decide +kernel
theorem dX12_spellings_17 : decode cX12_spellings 17 = .ok (.iload_n 3, 1) := by decide +kernel
theorem dX12_spellings_18 : decode cX12_spellings 18 = .ok (.bipush 18, 2) := by decide +kernel
theorem dX12_spellings_20 : decode cX12_spellings 20 = .ok (.if_icmp .le 7, 3) := by decide +kernel
theorem dX12_spellings_23 : decode cX12_spellings 23 = .ok (.ldc2_w 288, 3) := by decide +kernel
theorem dX12_spellings_26 : decode cX12_spellings 26 = .ok (.lreturn, 1) := by decide +kernel
theorem dX12_spellings_27 : decode cX12_spellings 27 = .ok (.lconst 1, 1) := by decide +kernel
theorem dX12_spellings_28 : decode cX12_spellings 28 = .ok (.lstore 4, 2) := by decide +kernel
theorem dX12_spellings_30 : decode cX12_spellings 30 = .ok (.iconst 0, 1) := by decide +kernel
theorem dX12_spellings_31 : decode cX12_spellings 31 = .ok (.istore 6, 2) := by decide +kernel
theorem dX12_spellings_33 : decode cX12_spellings 33 = .ok (.iconst 0, 1) := by decide +kernel
theorem dX12_spellings_34 : decode cX12_spellings 34 = .ok (.istore 7, 2) := by decide +kernel
theorem dX12_spellings_36 : decode cX12_spellings 36 = .ok (.iload 7, 2) := by decide +kernel
theorem dX12_spellings_38 : decode cX12_spellings 38 = .ok (.iload_n 3, 1) := by decide +kernel
theorem dX12_spellings_39 : decode cX12_spellings 39 = .ok (.if_icmp .ge 103, 3) := by decide +kernel
theorem dX12_spellings_42 : decode cX12_spellings 42 = .ok (.aload_n 0, 1) := by decide +kernel
theorem dX12_spellings_43 : decode cX12_spellings 43 = .ok (.getfield 31, 3) := by decide +kernel
theorem dX12_spellings_46 : decode cX12_spellings 46 = .ok (.aload_n 0, 1) := by decide +kernel
theorem dX12_spellings_47 : decode cX12_spellings 47 = .ok (.iload_n 2, 1) := by decide +kernel
theorem dX12_spellings_48 : decode cX12_spellings 48 = .ok (.invokevirtual 174, 3) := by decide +kernel
theorem dX12_spellings_51 : decode cX12_spellings 51 = .ok (.iload 7, 2) := by decide +kernel
theorem dX12_spellings_53 : decode cX12_spellings 53 = .ok (.iadd, 1) := by decide +kernel
theorem dX12_spellings_54 : decode cX12_spellings 54 = .ok (.iaload, 1) := by decide +kernel
theorem dX12_spellings_55 : decode cX12_spellings 55 = .ok (.istore 8, 2) := by decide +kernel
theorem dX12_spellings_57 : decode cX12_spellings 57 = .ok (.iload 7, 2) := by decide +kernel
theorem dX12_spellings_59 : decode cX12_spellings 59 = .ok (.ifCond .le 45, 3) := by decide +kernel
theorem dX12_spellings_62 : decode cX12_spellings 62 = .ok (.aload_n 0, 1) := by decide +kernel
theorem dX12_spellings_63 : decode cX12_spellings 63 = .ok (.getfield 9, 3) := by decide +kernel
theorem dX12_spellings_66 : decode cX12_spellings 66 = .ok (.aload_n 0, 1) := by decide +kernel
theorem dX12_spellings_67 : decode cX12_spellings 67 = .ok (.getfield 31, 3) := by decide +kernel
theorem dX12_spellings_70 : decode cX12_spellings 70 = .ok (.aload_n 0, 1) := by decide +kernel
theorem dX12_spellings_71 : decode cX12_spellings 71 = .ok (.iload_n 2, 1) := by decide +kernel
theorem dX12_spellings_72 : decode cX12_spellings 72 = .ok (.invokevirtual 174, 3) := by decide +kernel
theorem dX12_spellings_75 : decode cX12_spellings 75 = .ok (.iload 7, 2) := by decide +kernel
theorem dX12_spellings_77 : decode cX12_spellings 77 = .ok (.iadd, 1) := by decide +kernel
theorem dX12_spellings_78 : decode cX12_spellings 78 = .ok (.iconst 1, 1) := by decide +kernel
theorem dX12_spellings_79 : decode cX12_spellings 79 = .ok (.isub, 1) := by decide +kernel
theorem dX12_spellings_80 : decode cX12_spellings 80 = .ok (.iaload, 1) := by decide +kernel
theorem dX12_spellings_81 : decode cX12_spellings 81 = .ok (.iconst 1, 1) := by decide +kernel
theorem dX12_spellings_82 : decode cX12_spellings 82 = .ok (.invokestatic 114, 3) := by decide +kernel
theorem dX12_spellings_85 : decode cX12_spellings 85 = .ok (.iaload, 1) := by decide +kernel
theorem dX12_spellings_86 : decode cX12_spellings 86 = .ok (.aload_n 0, 1) := by decide +kernel
theorem dX12_spellings_87 : decode cX12_spellings 87 = .ok (.getfield 9, 3) := by decide +kernel
theorem dX12_spellings_90 : decode cX12_spellings 90 = .ok (.iload 8, 2) := by decide +kernel
theorem dX12_spellings_92 : decode cX12_spellings 92 = .ok (.iconst 1, 1) := by decide +kernel
theorem dX12_spellings_93 : decode cX12_spellings 93 = .ok (.invokestatic 114, 3) := by decide +kernel
theorem dX12_spellings_96 : decode cX12_spellings 96 = .ok (.iaload, 1) := by decide +kernel
theorem dX12_spellings_97 : decode cX12_spellings 97 = .ok (.if_icmp .ne 7, 3) := by decide +kernel
theorem dX12_spellings_100 : decode cX12_spellings 100 = .ok (.iconst 1, 1) := by decide +kernel
theorem dX12_spellings_101 : decode cX12_spellings 101 = .ok (.goto 4, 3) := by decide +kernel
theorem dX12_spellings_104 : decode cX12_spellings 104 = .ok (.iconst 0, 1) := by decide +kernel
theorem dX12_spellings_105 : decode cX12_spellings 105 = .ok (.istore 9, 2) := by decide +kernel
theorem dX12_spellings_107 : decode cX12_spellings 107 = .ok (.iload 9, 2) := by decide +kernel
theorem dX12_spellings_109 : decode cX12_spellings 109 = .ok (.ifCond .eq 10, 3) := by decide +kernel
theorem dX12_spellings_112 : decode cX12_spellings 112 = .ok (.iload 6, 2) := by decide +kernel
theorem dX12_spellings_114 : decode cX12_spellings 114 = .ok (.iconst 1, 1) := by decide +kernel
theorem dX12_spellings_115 : decode cX12_spellings 115 = .ok (.iadd, 1) := by decide +kernel
theorem dX12_spellings_116 : decode cX12_spellings 116 = .ok (.goto 4, 3) := by decide +kernel
theorem dX12_spellings_119 : decode cX12_spellings 119 = .ok (.iconst 1, 1) := by decide +kernel
theorem dX12_spellings_120 : decode cX12_spellings 120 = .ok (.istore 6, 2) := by decide +kernel
theorem dX12_spellings_122 : decode cX12_spellings 122 = .ok (.lload 4, 2) := by decide +kernel
theorem dX12_spellings_124 : decode cX12_spellings 124 = .ok (.iload 7, 2) := by decide +kernel
theorem dX12_spellings_126 : decode cX12_spellings 126 = .ok (.iconst 1, 1) := by decide +kernel
theorem dX12_spellings_127 : decode cX12_spellings 127 = .ok (.iadd, 1) := by decide +kernel
theorem dX12_spellings_128 : decode cX12_spellings 128 = .ok (.i2l, 1) := by decide +kernel
theorem dX12_spellings_129 : decode cX12_spellings 129 = .ok (.lmul, 1) := by decide +kernel
theorem dX12_spellings_130 : decode cX12_spellings 130 = .ok (.iload 6, 2) := by decide +kernel
theorem dX12_spellings_132 : decode cX12_spellings 132 = .ok (.i2l, 1) := by decide +kernel
theorem dX12_spellings_133 : decode cX12_spellings 133 = .ok (.ldiv, 1) := by decide +kernel
theorem dX12_spellings_134 : decode cX12_spellings 134 = .ok (.lstore 4, 2) := by decide +kernel
theorem dX12_spellings_136 : decode cX12_spellings 136 = .ok (.iinc 7 1, 3) := by decide +kernel
theorem dX12_spellings_139 : decode cX12_spellings 139 = .ok (.goto (-103), 3) := by decide +kernel
theorem dX12_spellings_142 : decode cX12_spellings 142 = .ok (.lload 4, 2) := by decide +kernel
theorem dX12_spellings_144 : decode cX12_spellings 144 = .ok (.lreturn, 1) := by decide +kernel
set_option maxRecDepth 100000 in
theorem t_X12_spellings_120 (G : MG) (hG : (g_l G).stackTraces = false) (d : Nat) (hd : 9 ≤ d)   (k36 : MsSt → Nat → Int32 → Int32 → Int64 → Int32 → Int32 → Option (Int64 × MsSt)) (hk36 : ∀ (s : MsSt) (x1 : Nat) (x2 : Int32) (x3 : Int32) (x4 : Int64) (x5 : Int32) (x6 : Int32), ms_kd x1 = 13 → TrO G mX12_spellings d 0 0 0 0 ms_wj 36 [(0, .ref x1), (2, .int x2), (3, .int x3), (4, .long x4), (6, .int x5), (7, .int x6)] [] s (k36 s x1 x2 x3 x4 x5 x6)) (σ : MsSt) (l0 : Nat) (l2 : Int32) (l3 : Int32) (l4 : Int64) (l7 : Int32) (t0 : Int32) (h0 : ms_kd l0 = 13) : TrO G mX12_spellings d 0 0 0 0 ms_wj 120 [(0, .ref l0), (2, .int l2), (3, .int l3), (4, .long l4), (7, .int l7)] [.int t0] σ (f_X12_spellings_120 k36 σ l0 l2 l3 l4 l7 t0) := by
  show TrO G mX12_spellings d 0 0 0 0 ms_wj 120 [(0, .ref l0), (2, .int l2), (3, .int l3), (4, .long l4), (7, .int l7)] [.int t0] σ ((ms_ldiv (l4 * ((l7 + 1).toInt64)) t0.toInt64).bind fun v6 => k36 σ l0 l2 l3 v6 t0 (l7 + 1))
  refine tr_istore (lv' := [(0, .ref l0), (2, .int l2), (3, .int l3), (4, .long l4), (6, .int t0), (7, .int l7)]) [1, 2, 3, 4, 0, 5] dX12_spellings_120 (by decide) rfl ?_
  refine tr_lload (i := 3) dX12_spellings_122 rfl ?_
  refine tr_iload (i := 5) dX12_spellings_124 rfl ?_
  refine tr_iconst (v := 1) dX12_spellings_126 (by decide +kernel) ?_
  refine tr_iadd dX12_spellings_127 ?_
  refine tr_i2l dX12_spellings_128 ?_
  refine tr_lmul dX12_spellings_129 ?_
  refine tr_iload (i := 4) dX12_spellings_130 rfl ?_
  refine tr_i2l dX12_spellings_132 ?_
  refine tr_ldiv (o := none) dX12_spellings_133 (fun v6 => ?_)
  refine tr_lstore (lv' := [(0, .ref l0), (2, .int l2), (3, .int l3), (4, .long v6), (6, .int t0), (7, .int l7)]) [1, 2, 3, 0, 4, 5] dX12_spellings_134 (by decide) rfl ?_
  refine tr_iinc (k := 5) (v := (l7 + 1)) (lv' := [(0, .ref l0), (2, .int l2), (3, .int l3), (4, .long v6), (6, .int t0), (7, .int (l7 + 1))]) [1, 2, 3, 4, 5, 0] dX12_spellings_136 rfl rfl (by decide) rfl ?_
  refine tr_goto (tgt := 36) dX12_spellings_139 (by decide) ?_
  exact hk36 σ l0 l2 l3 v6 t0 (l7 + 1) h0
set_option maxRecDepth 100000 in
theorem t_X12_spellings_105 (G : MG) (hG : (g_l G).stackTraces = false) (d : Nat) (hd : 9 ≤ d)   (k36 : MsSt → Nat → Int32 → Int32 → Int64 → Int32 → Int32 → Option (Int64 × MsSt)) (hk36 : ∀ (s : MsSt) (x1 : Nat) (x2 : Int32) (x3 : Int32) (x4 : Int64) (x5 : Int32) (x6 : Int32), ms_kd x1 = 13 → TrO G mX12_spellings d 0 0 0 0 ms_wj 36 [(0, .ref x1), (2, .int x2), (3, .int x3), (4, .long x4), (6, .int x5), (7, .int x6)] [] s (k36 s x1 x2 x3 x4 x5 x6)) (σ : MsSt) (l0 : Nat) (l2 : Int32) (l3 : Int32) (l4 : Int64) (l6 : Int32) (l7 : Int32) (t0 : Int32) (h0 : ms_kd l0 = 13) : TrO G mX12_spellings d 0 0 0 0 ms_wj 105 [(0, .ref l0), (2, .int l2), (3, .int l3), (4, .long l4), (6, .int l6), (7, .int l7)] [.int t0] σ (f_X12_spellings_105 k36 σ l0 l2 l3 l4 l6 l7 t0) := by
  show TrO G mX12_spellings d 0 0 0 0 ms_wj 105 [(0, .ref l0), (2, .int l2), (3, .int l3), (4, .long l4), (6, .int l6), (7, .int l7)] [.int t0] σ (if t0 = 0 then f_X12_spellings_120 k36 σ l0 l2 l3 l4 l7 1 else f_X12_spellings_120 k36 σ l0 l2 l3 l4 l7 (l6 + 1))
  refine tr_istore (lv' := [(0, .ref l0), (2, .int l2), (3, .int l3), (4, .long l4), (6, .int l6), (7, .int l7), (9, .int t0)]) [1, 2, 3, 4, 5, 6, 0] dX12_spellings_105 (by decide) rfl ?_
  refine tr_iload (i := 6) dX12_spellings_107 rfl ?_
  refine tr_ifeq (o := none) (tgt := 119) dX12_spellings_109 (by decide) ?_ ?_
  · refine tr_iconst (v := 1) dX12_spellings_119 (by decide +kernel) ?_
    refine tr_weak [0, 1, 2, 3, 5] (lv' := [(0, .ref l0), (2, .int l2), (3, .int l3), (4, .long l4), (7, .int l7)]) rfl ?_
    exact t_X12_spellings_120 G hG d hd k36 hk36 σ l0 l2 l3 l4 l7 1 h0
  · refine tr_iload (i := 4) dX12_spellings_112 rfl ?_
    refine tr_iconst (v := 1) dX12_spellings_114 (by decide +kernel) ?_
    refine tr_iadd dX12_spellings_115 ?_
    refine tr_goto (tgt := 120) dX12_spellings_116 (by decide) ?_
    refine tr_weak [0, 1, 2, 3, 5] (lv' := [(0, .ref l0), (2, .int l2), (3, .int l3), (4, .long l4), (7, .int l7)]) rfl ?_
    exact t_X12_spellings_120 G hG d hd k36 hk36 σ l0 l2 l3 l4 l7 (l6 + 1) h0
set_option maxRecDepth 100000 in
theorem t_X12_spellings_104 (G : MG) (hG : (g_l G).stackTraces = false) (d : Nat) (hd : 9 ≤ d)   (k36 : MsSt → Nat → Int32 → Int32 → Int64 → Int32 → Int32 → Option (Int64 × MsSt)) (hk36 : ∀ (s : MsSt) (x1 : Nat) (x2 : Int32) (x3 : Int32) (x4 : Int64) (x5 : Int32) (x6 : Int32), ms_kd x1 = 13 → TrO G mX12_spellings d 0 0 0 0 ms_wj 36 [(0, .ref x1), (2, .int x2), (3, .int x3), (4, .long x4), (6, .int x5), (7, .int x6)] [] s (k36 s x1 x2 x3 x4 x5 x6)) (σ : MsSt) (l0 : Nat) (l2 : Int32) (l3 : Int32) (l4 : Int64) (l6 : Int32) (l7 : Int32) (h0 : ms_kd l0 = 13) : TrO G mX12_spellings d 0 0 0 0 ms_wj 104 [(0, .ref l0), (2, .int l2), (3, .int l3), (4, .long l4), (6, .int l6), (7, .int l7)] [] σ (f_X12_spellings_104 k36 σ l0 l2 l3 l4 l6 l7) := by
  show TrO G mX12_spellings d 0 0 0 0 ms_wj 104 [(0, .ref l0), (2, .int l2), (3, .int l3), (4, .long l4), (6, .int l6), (7, .int l7)] [] σ (f_X12_spellings_105 k36 σ l0 l2 l3 l4 l6 l7 0)
  refine tr_iconst (v := 0) dX12_spellings_104 (by decide +kernel) ?_
  exact t_X12_spellings_105 G hG d hd k36 hk36 σ l0 l2 l3 l4 l6 l7 0 h0
set_option maxRecDepth 100000 in
theorem t_X12_spellings_36 (G : MG) (hG : (g_l G).stackTraces = false) (d : Nat) (hd : 9 ≤ d)    : ∀ (n : Nat) (σ : MsSt) (l0 : Nat) (l2 : Int32) (l3 : Int32) (l4 : Int64) (l6 : Int32) (l7 : Int32) (h0 : ms_kd l0 = 13), TrO G mX12_spellings d 0 0 0 0 ms_wj 36 [(0, .ref l0), (2, .int l2), (3, .int l3), (4, .long l4), (6, .int l6), (7, .int l7)] [] σ (f_X12_spellings_36 n σ l0 l2 l3 l4 l6 l7) := by
  intro n
  induction n with
  | zero => exact fun _ _ _ _ _ _ _ _ => tr_none
  | succ n ih =>
    intro σ l0 l2 l3 l4 l6 l7 h0
    show TrO G mX12_spellings d 0 0 0 0 ms_wj 36 [(0, .ref l0), (2, .int l2), (3, .int l3), (4, .long l4), (6, .int l6), (7, .int l7)] [] σ (if l7 < l3 then (f_X12_firstMark σ l0 l2).bind fun v4 => (ms_ald σ (ms_rf l0 10) (v4 + l7)).bind fun v5 => if 0 < l7 then (f_X12_firstMark σ l0 l2).bind fun v7 => (ms_ald σ (ms_rf l0 10) ((v7 + l7) - 1)).bind fun v8 => (f_X12_of σ v8 1).bind fun v9 => (ms_ald σ (ms_rf l0 0) v9).bind fun v10 => (f_X12_of σ v5 1).bind fun v11 => (ms_ald σ (ms_rf l0 0) v11).bind fun v12 => if v10 = v12 then f_X12_spellings_105 (f_X12_spellings_36 n) σ l0 l2 l3 l4 l6 l7 1 else f_X12_spellings_104 (f_X12_spellings_36 n) σ l0 l2 l3 l4 l6 l7 else f_X12_spellings_104 (f_X12_spellings_36 n) σ l0 l2 l3 l4 l6 l7 else some (l4, σ))
    refine tr_iload (i := 5) dX12_spellings_36 rfl ?_
    refine tr_iload_n (i := 2) dX12_spellings_38 rfl ?_
    refine tr_icge (o := none) (tgt := 142) dX12_spellings_39 (by decide) ?_ ?_
    · refine tr_lload (i := 3) dX12_spellings_142 rfl ?_
      exact tr_lret rfl rfl (by decide) (by decide) dX12_spellings_144
    · refine tr_aload_n (i := 0) dX12_spellings_42 rfl ?_
      refine tr_getR 12 h0 fl_X12_31 (by decide +kernel) dX12_spellings_43 ?_
      refine tr_aload_n (i := 0) dX12_spellings_46 rfl ?_
      refine tr_iload_n (i := 1) dX12_spellings_47 rfl ?_
      refine tr_c_i (ms_cV (rest := [.ref (ms_rf l0 10)]) (al := [.int l2]) 12 (sp_X12_firstMark G hG (d - 1) (by omega) σ l0 l2 h0) h0 (by decide +kernel) kl_X12_174 fv_X12_firstMark dX12_spellings_48 (show _ = some 1 by decide +kernel) (by omega) (Nat.le_of_ble_eq_true rfl) (by decide) (by decide)) (fun v4 => ?_)
      refine tr_iload (i := 5) dX12_spellings_51 rfl ?_
      refine tr_iadd dX12_spellings_53 ?_
      refine tr_ald (rk_12_10 h0) dX12_spellings_54 (fun v5 => ?_)
      refine tr_istore (lv' := [(0, .ref l0), (2, .int l2), (3, .int l3), (4, .long l4), (6, .int l6), (7, .int l7), (8, .int v5)]) [1, 2, 3, 4, 5, 6, 0] dX12_spellings_55 (by decide) rfl ?_
      refine tr_iload (i := 5) dX12_spellings_57 rfl ?_
      refine tr_ifle (o := none) (tgt := 104) dX12_spellings_59 (by decide) ?_ ?_
      · refine tr_weak [0, 1, 2, 3, 4, 5] (lv' := [(0, .ref l0), (2, .int l2), (3, .int l3), (4, .long l4), (6, .int l6), (7, .int l7)]) rfl ?_
        exact t_X12_spellings_104 G hG d hd (f_X12_spellings_36 n) (fun s y0 y1 y2 y3 y4 y5 g0 => ih s y0 y1 y2 y3 y4 y5 g0) σ l0 l2 l3 l4 l6 l7 h0
      · refine tr_aload_n (i := 0) dX12_spellings_62 rfl ?_
        refine tr_getR 12 h0 fl_X12_9 (by decide +kernel) dX12_spellings_63 ?_
        refine tr_aload_n (i := 0) dX12_spellings_66 rfl ?_
        refine tr_getR 12 h0 fl_X12_31 (by decide +kernel) dX12_spellings_67 ?_
        refine tr_aload_n (i := 0) dX12_spellings_70 rfl ?_
        refine tr_iload_n (i := 1) dX12_spellings_71 rfl ?_
        refine tr_c_i (ms_cV (rest := [.ref (ms_rf l0 10), .ref (ms_rf l0 0)]) (al := [.int l2]) 12 (sp_X12_firstMark G hG (d - 1) (by omega) σ l0 l2 h0) h0 (by decide +kernel) kl_X12_174 fv_X12_firstMark dX12_spellings_72 (show _ = some 1 by decide +kernel) (by omega) (Nat.le_of_ble_eq_true rfl) (by decide) (by decide)) (fun v7 => ?_)
        refine tr_iload (i := 5) dX12_spellings_75 rfl ?_
        refine tr_iadd dX12_spellings_77 ?_
        refine tr_iconst (v := 1) dX12_spellings_78 (by decide +kernel) ?_
        refine tr_isub dX12_spellings_79 ?_
        refine tr_ald (rk_12_10 h0) dX12_spellings_80 (fun v8 => ?_)
        refine tr_iconst (v := 1) dX12_spellings_81 (by decide +kernel) ?_
        refine tr_c_i (ms_cS (rest := [.ref (ms_rf l0 0)]) (al := [.int v8, .int 1]) (sp_X12_of G hG (d - 1) (by omega) σ v8 1) kl_X12_114 fs_X12_of dX12_spellings_82 (show _ = some 2 by decide +kernel) (by omega) (Nat.le_of_ble_eq_true rfl) (by decide) (by decide)) (fun v9 => ?_)
        refine tr_ald (rk_12_0 h0) dX12_spellings_85 (fun v10 => ?_)
        refine tr_aload_n (i := 0) dX12_spellings_86 rfl ?_
        refine tr_getR 12 h0 fl_X12_9 (by decide +kernel) dX12_spellings_87 ?_
        refine tr_iload (i := 6) dX12_spellings_90 rfl ?_
        refine tr_iconst (v := 1) dX12_spellings_92 (by decide +kernel) ?_
        refine tr_c_i (ms_cS (rest := [.ref (ms_rf l0 0), .int v10]) (al := [.int v5, .int 1]) (sp_X12_of G hG (d - 1) (by omega) σ v5 1) kl_X12_114 fs_X12_of dX12_spellings_93 (show _ = some 2 by decide +kernel) (by omega) (Nat.le_of_ble_eq_true rfl) (by decide) (by decide)) (fun v11 => ?_)
        refine tr_ald (rk_12_0 h0) dX12_spellings_96 (fun v12 => ?_)
        refine tr_icne (o := none) (tgt := 104) dX12_spellings_97 (by decide) ?_ ?_
        · refine tr_weak [0, 1, 2, 3, 4, 5] (lv' := [(0, .ref l0), (2, .int l2), (3, .int l3), (4, .long l4), (6, .int l6), (7, .int l7)]) rfl ?_
          exact t_X12_spellings_104 G hG d hd (f_X12_spellings_36 n) (fun s y0 y1 y2 y3 y4 y5 g0 => ih s y0 y1 y2 y3 y4 y5 g0) σ l0 l2 l3 l4 l6 l7 h0
        · refine tr_iconst (v := 1) dX12_spellings_100 (by decide +kernel) ?_
          refine tr_goto (tgt := 105) dX12_spellings_101 (by decide) ?_
          refine tr_weak [0, 1, 2, 3, 4, 5] (lv' := [(0, .ref l0), (2, .int l2), (3, .int l3), (4, .long l4), (6, .int l6), (7, .int l7)]) rfl ?_
          exact t_X12_spellings_105 G hG d hd (f_X12_spellings_36 n) (fun s y0 y1 y2 y3 y4 y5 g0 => ih s y0 y1 y2 y3 y4 y5 g0) σ l0 l2 l3 l4 l6 l7 1 h0
set_option maxRecDepth 100000 in
theorem sp_X12_spellings (G : MG) (hG : (g_l G).stackTraces = false) (d : Nat) (hd : 9 ≤ d)   (σ : MsSt) (l0 : Nat) (l1 : Int32) (l2 : Int32) (h0 : ms_kd l0 = 13) : MsSpec G mX12_spellings d 0 0 [.ref l0, .int l1, .int l2] σ ms_wj (f_X12_spellings σ l0 l1 l2) := by
  refine ms_start (by decide +kernel) rfl rfl (Nat.le_of_ble_eq_true rfl) ?_
  show TrO G mX12_spellings d 0 0 0 0 ms_wj 0 [(0, .ref l0), (1, .int l1), (2, .int l2)] [] σ (ms_b2 (f_X12_noCluster σ l0 l1 l2) fun v1 s2 => if v1 = 0 then (f_X12_marksOf s2 l0 l2).bind fun v3 => if 18 < v3 then some ((-2), s2) else f_X12_spellings_36 ms_fuel s2 l0 l2 v3 1 0 0 else some (0, s2))
  refine tr_aload_n (i := 0) dX12_spellings_0 rfl ?_
  refine tr_iload_n (i := 1) dX12_spellings_1 rfl ?_
  refine tr_iload_n (i := 2) dX12_spellings_2 rfl ?_
  refine tr_d_wi (ms_cV (rest := []) (al := [.int l1, .int l2]) 12 (sp_X12_noCluster G hG (d - 1) (by omega) σ l0 l1 l2 h0) h0 (by decide +kernel) kl_X12_280 fv_X12_noCluster dX12_spellings_3 (show _ = some 2 by decide +kernel) (by omega) (Nat.le_of_ble_eq_true rfl) (by decide) (by decide)) (fun v1 s2 => ?_)
  refine tr_ifeq (o := none) (tgt := 11) dX12_spellings_6 (by decide) ?_ ?_
  · refine tr_aload_n (i := 0) dX12_spellings_11 rfl ?_
    refine tr_iload_n (i := 2) dX12_spellings_12 rfl ?_
    refine tr_c_i (ms_cV (rest := []) (al := [.int l2]) 12 (sp_X12_marksOf G hG (d - 1) (by omega) s2 l0 l2 h0) h0 (by decide +kernel) kl_X12_186 fv_X12_marksOf dX12_spellings_13 (show _ = some 1 by decide +kernel) (by omega) (Nat.le_of_ble_eq_true rfl) (by decide) (by decide)) (fun v3 => ?_)
    refine tr_istore_n (lv' := [(0, .ref l0), (2, .int l2), (3, .int v3)]) [1, 3, 0] dX12_spellings_16 (by decide) rfl ?_
    refine tr_iload_n (i := 2) dX12_spellings_17 rfl ?_
    refine tr_bipush (v := 18) dX12_spellings_18 (by decide +kernel) ?_
    refine tr_icle (o := none) (tgt := 27) dX12_spellings_20 (by decide) ?_ ?_
    · refine tr_lconst (v := 1) dX12_spellings_27 (by decide +kernel) ?_
      refine tr_lstore (lv' := [(0, .ref l0), (2, .int l2), (3, .int v3), (4, .long 1)]) [1, 2, 3, 0] dX12_spellings_28 (by decide) rfl ?_
      refine tr_iconst (v := 0) dX12_spellings_30 (by decide +kernel) ?_
      refine tr_istore (lv' := [(0, .ref l0), (2, .int l2), (3, .int v3), (4, .long 1), (6, .int 0)]) [1, 2, 3, 4, 0] dX12_spellings_31 (by decide) rfl ?_
      refine tr_iconst (v := 0) dX12_spellings_33 (by decide +kernel) ?_
      refine tr_istore (lv' := [(0, .ref l0), (2, .int l2), (3, .int v3), (4, .long 1), (6, .int 0), (7, .int 0)]) [1, 2, 3, 4, 5, 0] dX12_spellings_34 (by decide) rfl ?_
      exact t_X12_spellings_36 G hG d hd ms_fuel s2 l0 l2 v3 1 0 0 h0
    · refine tr_ldcl (v := (-2)) (List.mem_of_getElem? (i := 1993) (by decide +kernel)) dX12_spellings_23 ?_
      exact tr_lret rfl rfl (by decide) (by decide) dX12_spellings_26
  · refine tr_lconst (v := 0) dX12_spellings_9 (by decide +kernel) ?_
    exact tr_lret rfl rfl (by decide) (by decide) dX12_spellings_10
theorem dX12_clashes_0 : decode cX12_clashes 0 = .ok (.aload_n 0, 1) := by decide +kernel
theorem dX12_clashes_1 : decode cX12_clashes 1 = .ok (.aload_n 0, 1) := by decide +kernel
theorem dX12_clashes_2 : decode cX12_clashes 2 = .ok (.iload_n 1, 1) := by decide +kernel
theorem dX12_clashes_3 : decode cX12_clashes 3 = .ok (.iload_n 2, 1) := by decide +kernel
theorem dX12_clashes_4 : decode cX12_clashes 4 = .ok (.invokevirtual 183, 3) := by decide +kernel
theorem dX12_clashes_7 : decode cX12_clashes 7 = .ok (.ifCond .eq 17, 3) := by decide +kernel
theorem dX12_clashes_10 : decode cX12_clashes 10 = .ok (.iload_n 2, 1) := by decide +kernel
theorem dX12_clashes_11 : decode cX12_clashes 11 = .ok (.aload_n 0, 1) := by decide +kernel
theorem dX12_clashes_12 : decode cX12_clashes 12 = .ok (.getfield 168, 3) := by decide +kernel
theorem dX12_clashes_15 : decode cX12_clashes 15 = .ok (.iconst 1, 1) := by decide +kernel
theorem dX12_clashes_16 : decode cX12_clashes 16 = .ok (.isub, 1) := by decide +kernel
theorem dX12_clashes_17 : decode cX12_clashes 17 = .ok (.if_icmp .ge 7, 3) := by decide +kernel
theorem dX12_clashes_20 : decode cX12_clashes 20 = .ok (.iconst 0, 1) := by decide +kernel
theorem dX12_clashes_21 : decode cX12_clashes 21 = .ok (.goto 4, 3) := by decide +kernel
theorem dX12_clashes_24 : decode cX12_clashes 24 = .ok (.iconst 1, 1) := by decide +kernel
theorem dX12_clashes_25 : decode cX12_clashes 25 = .ok (.putfield 107, 3) := by decide +kernel
theorem dX12_clashes_28 : decode cX12_clashes 28 = .ok (.aload_n 0, 1) := by decide +kernel
theorem dX12_clashes_29 : decode cX12_clashes 29 = .ok (.getfield 107, 3) := by decide +kernel
theorem dX12_clashes_32 : decode cX12_clashes 32 = .ok (.ifCond .ne 15, 3) := by decide +kernel
theorem dX12_clashes_35 : decode cX12_clashes 35 = .ok (.aload_n 0, 1) := by decide +kernel
theorem dX12_clashes_36 : decode cX12_clashes 36 = .ok (.iload_n 2, 1) := by decide +kernel
theorem dX12_clashes_37 : decode cX12_clashes 37 = .ok (.invokevirtual 244, 3) := by decide +kernel
theorem dX12_clashes_40 : decode cX12_clashes 40 = .ok (.ifCond .eq 7, 3) := by decide +kernel
theorem dX12_clashes_43 : decode cX12_clashes 43 = .ok (.iconst 1, 1) := by decide +kernel
theorem dX12_clashes_44 : decode cX12_clashes 44 = .ok (.goto 4, 3) := by decide +kernel
theorem dX12_clashes_47 : decode cX12_clashes 47 = .ok (.iconst 0, 1) := by decide +kernel
theorem dX12_clashes_48 : decode cX12_clashes 48 = .ok (.ireturn, 1) := by decide +kernel
set_option maxRecDepth 100000 in
theorem t_X12_clashes_25 (G : MG) (hG : (g_l G).stackTraces = false) (d : Nat) (hd : 8 ≤ d)    (σ : MsSt) (l0 : Nat) (l2 : Int32) (t0 : Int32) (t1 : Nat) (h0 : ms_kd l0 = 13) (ht1 : ms_kd t1 = 13) : TrO G mX12_clashes d 0 0 0 0 ms_wi 25 [(0, .ref l0), (2, .int l2)] [.int t0, .ref t1] σ (f_X12_clashes_25 σ l0 l2 t0 t1) := by
  show TrO G mX12_clashes d 0 0 0 0 ms_wi 25 [(0, .ref l0), (2, .int l2)] [.int t0, .ref t1] σ (ms_nm (ms_si σ t1 7 t0) fun s3 => if (ms_i s3 l0 7) = 0 then ms_b2 (f_X12_isClash s3 l0 l2) fun v4 s5 => if v4 = 0 then some (0, s5) else some (1, s5) else some (0, s3))
  refine tr_putI 12 ht1 fl_X12_107 (by decide +kernel) dX12_clashes_25 ?_
  refine ms_ltS (fun s3 => ?_)
  refine tr_aload_n (i := 0) dX12_clashes_28 rfl ?_
  refine tr_getI 12 h0 fl_X12_107 (by decide +kernel) dX12_clashes_29 ?_
  refine tr_ifne (o := none) (tgt := 47) dX12_clashes_32 (by decide) ?_ ?_
  · refine tr_iconst (v := 0) dX12_clashes_47 (by decide +kernel) ?_
    exact tr_zret rfl (by decide +kernel) rfl (by decide) (by decide) dX12_clashes_48
  · refine tr_aload_n (i := 0) dX12_clashes_35 rfl ?_
    refine tr_iload_n (i := 1) dX12_clashes_36 rfl ?_
    refine tr_d_wi (ms_cV (rest := []) (al := [.int l2]) 12 (sp_X12_isClash G hG (d - 1) (by omega) s3 l0 l2 h0) h0 (by decide +kernel) kl_X12_244 fv_X12_isClash dX12_clashes_37 (show _ = some 1 by decide +kernel) (by omega) (Nat.le_of_ble_eq_true rfl) (by decide) (by decide)) (fun v4 s5 => ?_)
    refine tr_ifeq (o := none) (tgt := 47) dX12_clashes_40 (by decide) ?_ ?_
    · refine tr_iconst (v := 0) dX12_clashes_47 (by decide +kernel) ?_
      exact tr_zret rfl (by decide +kernel) rfl (by decide) (by decide) dX12_clashes_48
    · refine tr_iconst (v := 1) dX12_clashes_43 (by decide +kernel) ?_
      refine tr_goto (tgt := 48) dX12_clashes_44 (by decide) ?_
      exact tr_zret rfl (by decide +kernel) rfl (by decide) (by decide) dX12_clashes_48
set_option maxRecDepth 100000 in
theorem t_X12_clashes_24 (G : MG) (hG : (g_l G).stackTraces = false) (d : Nat) (hd : 8 ≤ d)    (σ : MsSt) (l0 : Nat) (l2 : Int32) (t0 : Nat) (h0 : ms_kd l0 = 13) (ht0 : ms_kd t0 = 13) : TrO G mX12_clashes d 0 0 0 0 ms_wi 24 [(0, .ref l0), (2, .int l2)] [.ref t0] σ (f_X12_clashes_24 σ l0 l2 t0) := by
  show TrO G mX12_clashes d 0 0 0 0 ms_wi 24 [(0, .ref l0), (2, .int l2)] [.ref t0] σ (f_X12_clashes_25 σ l0 l2 1 t0)
  refine tr_iconst (v := 1) dX12_clashes_24 (by decide +kernel) ?_
  exact t_X12_clashes_25 G hG d hd σ l0 l2 1 t0 h0 ht0
set_option maxRecDepth 100000 in
theorem sp_X12_clashes (G : MG) (hG : (g_l G).stackTraces = false) (d : Nat) (hd : 8 ≤ d)   (σ : MsSt) (l0 : Nat) (l1 : Int32) (l2 : Int32) (h0 : ms_kd l0 = 13) : MsSpec G mX12_clashes d 0 0 [.ref l0, .int l1, .int l2] σ ms_wi (f_X12_clashes σ l0 l1 l2) := by
  refine ms_start (by decide +kernel) rfl rfl (Nat.le_of_ble_eq_true rfl) ?_
  show TrO G mX12_clashes d 0 0 0 0 ms_wi 0 [(0, .ref l0), (1, .int l1), (2, .int l2)] [] σ (ms_b2 (f_X12_isCluster σ l0 l1 l2) fun v1 s2 => if v1 = 0 then f_X12_clashes_24 s2 l0 l2 l0 else if l2 < ((ms_i s2 l0 17) - 1) then f_X12_clashes_25 s2 l0 l2 0 l0 else f_X12_clashes_24 s2 l0 l2 l0)
  refine tr_aload_n (i := 0) dX12_clashes_0 rfl ?_
  refine tr_aload_n (i := 0) dX12_clashes_1 rfl ?_
  refine tr_iload_n (i := 1) dX12_clashes_2 rfl ?_
  refine tr_iload_n (i := 2) dX12_clashes_3 rfl ?_
  refine tr_d_wi (ms_cV (rest := [.ref l0]) (al := [.int l1, .int l2]) 12 (sp_X12_isCluster G hG (d - 1) (by omega) σ l0 l1 l2 h0) h0 (by decide +kernel) kl_X12_183 fv_X12_isCluster dX12_clashes_4 (show _ = some 2 by decide +kernel) (by omega) (Nat.le_of_ble_eq_true rfl) (by decide) (by decide)) (fun v1 s2 => ?_)
  refine tr_ifeq (o := none) (tgt := 24) dX12_clashes_7 (by decide) ?_ ?_
  · refine tr_weak [0, 2] (lv' := [(0, .ref l0), (2, .int l2)]) rfl ?_
    exact t_X12_clashes_24 G hG d hd s2 l0 l2 l0 h0 h0
  · refine tr_iload_n (i := 2) dX12_clashes_10 rfl ?_
    refine tr_aload_n (i := 0) dX12_clashes_11 rfl ?_
    refine tr_getI 12 h0 fl_X12_168 (by decide +kernel) dX12_clashes_12 ?_
    refine tr_iconst (v := 1) dX12_clashes_15 (by decide +kernel) ?_
    refine tr_isub dX12_clashes_16 ?_
    refine tr_icge (o := none) (tgt := 24) dX12_clashes_17 (by decide) ?_ ?_
    · refine tr_weak [0, 2] (lv' := [(0, .ref l0), (2, .int l2)]) rfl ?_
      exact t_X12_clashes_24 G hG d hd s2 l0 l2 l0 h0 h0
    · refine tr_iconst (v := 0) dX12_clashes_20 (by decide +kernel) ?_
      refine tr_goto (tgt := 25) dX12_clashes_21 (by decide) ?_
      refine tr_weak [0, 2] (lv' := [(0, .ref l0), (2, .int l2)]) rfl ?_
      exact t_X12_clashes_25 G hG d hd s2 l0 l2 0 l0 h0 h0
theorem dX12_fullest_0 : decode cX12_fullest 0 = .ok (.aload_n 0, 1) := by decide +kernel
theorem dX12_fullest_1 : decode cX12_fullest 1 = .ok (.iload_n 1, 1) := by decide +kernel
theorem dX12_fullest_2 : decode cX12_fullest 2 = .ok (.invokevirtual 247, 3) := by decide +kernel
theorem dX12_fullest_5 : decode cX12_fullest 5 = .ok (.ifCond .eq 5, 3) := by decide +kernel
theorem dX12_fullest_8 : decode cX12_fullest 8 = .ok (.iconst 0, 1) := by decide +kernel
theorem dX12_fullest_9 : decode cX12_fullest 9 = .ok (.ireturn, 1) := by decide +kernel
theorem dX12_fullest_10 : decode cX12_fullest 10 = .ok (.aload_n 0, 1) := by decide +kernel
theorem dX12_fullest_11 : decode cX12_fullest 11 = .ok (.iload_n 1, 1) := by decide +kernel
theorem dX12_fullest_12 : decode cX12_fullest 12 = .ok (.invokevirtual 180, 3) := by decide +kernel
theorem dX12_fullest_15 : decode cX12_fullest 15 = .ok (.iconst (-1), 1) := by decide +kernel
theorem dX12_fullest_16 : decode cX12_fullest 16 = .ok (.istore_n 2, 1) := by decide +kernel
theorem dX12_fullest_17 : decode cX12_fullest 17 = .ok (.iconst 0, 1) := by decide +kernel
theorem dX12_fullest_18 : decode cX12_fullest 18 = .ok (.istore_n 3, 1) := by decide +kernel
theorem dX12_fullest_19 : decode cX12_fullest 19 = .ok (.iload_n 3, 1) := by decide +kernel
theorem dX12_fullest_20 : decode cX12_fullest 20 = .ok (.aload_n 0, 1) := by decide +kernel
theorem dX12_fullest_21 : decode cX12_fullest 21 = .ok (.getfield 168, 3) := by decide +kernel
theorem dX12_fullest_24 : decode cX12_fullest 24 = .ok (.if_icmp .ge 33, 3) := by decide +kernel
theorem dX12_fullest_27 : decode cX12_fullest 27 = .ok (.iload_n 2, 1) := by decide +kernel
theorem dX12_fullest_28 : decode cX12_fullest 28 = .ok (.iconst (-1), 1) := by decide +kernel
theorem dX12_fullest_29 : decode cX12_fullest 29 = .ok (.if_icmp .eq 16, 3) := by decide +kernel
theorem dX12_fullest_32 : decode cX12_fullest 32 = .ok (.aload_n 0, 1) := by decide +kernel
theorem dX12_fullest_33 : decode cX12_fullest 33 = .ok (.iload_n 3, 1) := by decide +kernel
theorem dX12_fullest_34 : decode cX12_fullest 34 = .ok (.invokevirtual 186, 3) := by decide +kernel
theorem dX12_fullest_37 : decode cX12_fullest 37 = .ok (.aload_n 0, 1) := by decide +kernel
theorem dX12_fullest_38 : decode cX12_fullest 38 = .ok (.iload_n 2, 1) := by decide +kernel
theorem dX12_fullest_39 : decode cX12_fullest 39 = .ok (.invokevirtual 186, 3) := by decide +kernel
theorem dX12_fullest_42 : decode cX12_fullest 42 = .ok (.if_icmp .le 7, 3) := by decide +kernel
theorem dX12_fullest_45 : decode cX12_fullest 45 = .ok (.iload_n 3, 1) := by decide +kernel
theorem dX12_fullest_46 : decode cX12_fullest 46 = .ok (.goto 4, 3) := by decide +kernel
theorem dX12_fullest_49 : decode cX12_fullest 49 = .ok (.iload_n 2, 1) := by decide +kernel
theorem dX12_fullest_50 : decode cX12_fullest 50 = .ok (.istore_n 2, 1) := by decide +kernel
theorem dX12_fullest_51 : decode cX12_fullest 51 = .ok (.iinc 3 1, 3) := by decide +kernel
theorem dX12_fullest_54 : decode cX12_fullest 54 = .ok (.goto (-35), 3) := by decide +kernel
theorem dX12_fullest_57 : decode cX12_fullest 57 = .ok (.iload_n 2, 1) := by decide +kernel
theorem dX12_fullest_58 : decode cX12_fullest 58 = .ok (.ireturn, 1) := by decide +kernel
set_option maxRecDepth 100000 in
theorem t_X12_fullest_19 (G : MG) (hG : (g_l G).stackTraces = false) (d : Nat) (hd : 7 ≤ d)    : ∀ (n : Nat) (σ : MsSt) (l0 : Nat) (l2 : Int32) (l3 : Int32) (h0 : ms_kd l0 = 13), TrO G mX12_fullest d 0 0 0 0 ms_wi 19 [(0, .ref l0), (2, .int l2), (3, .int l3)] [] σ (f_X12_fullest_19 n σ l0 l2 l3) := by
  intro n
  induction n with
  | zero => exact fun _ _ _ _ _ => tr_none
  | succ n ih =>
    intro σ l0 l2 l3 h0
    show TrO G mX12_fullest d 0 0 0 0 ms_wi 19 [(0, .ref l0), (2, .int l2), (3, .int l3)] [] σ (if l3 < (ms_i σ l0 17) then if l2 = (-1) then (f_X12_fullest_19 n) σ l0 l3 (l3 + 1) else (f_X12_marksOf σ l0 l3).bind fun v4 => (f_X12_marksOf σ l0 l2).bind fun v5 => if v5 < v4 then (f_X12_fullest_19 n) σ l0 l3 (l3 + 1) else (f_X12_fullest_19 n) σ l0 l2 (l3 + 1) else some (l2, σ))
    refine tr_iload_n (i := 2) dX12_fullest_19 rfl ?_
    refine tr_aload_n (i := 0) dX12_fullest_20 rfl ?_
    refine tr_getI 12 h0 fl_X12_168 (by decide +kernel) dX12_fullest_21 ?_
    refine tr_icge (o := none) (tgt := 57) dX12_fullest_24 (by decide) ?_ ?_
    · refine tr_iload_n (i := 1) dX12_fullest_57 rfl ?_
      exact tr_iret rfl rfl (by decide) (by decide) dX12_fullest_58
    · refine tr_iload_n (i := 1) dX12_fullest_27 rfl ?_
      refine tr_iconst (v := (-1)) dX12_fullest_28 (by decide +kernel) ?_
      refine tr_iceq (o := none) (tgt := 45) dX12_fullest_29 (by decide) ?_ ?_
      · refine tr_iload_n (i := 2) dX12_fullest_45 rfl ?_
        refine tr_goto (tgt := 50) dX12_fullest_46 (by decide) ?_
        refine tr_istore_n (lv' := [(0, .ref l0), (2, .int l3), (3, .int l3)]) [1, 0, 2] dX12_fullest_50 (by decide) rfl ?_
        refine tr_iinc (k := 2) (v := (l3 + 1)) (lv' := [(0, .ref l0), (2, .int l3), (3, .int (l3 + 1))]) [1, 2, 0] dX12_fullest_51 rfl rfl (by decide) rfl ?_
        refine tr_goto (tgt := 19) dX12_fullest_54 (by decide) ?_
        exact (fun s y0 y1 y2 g0 => ih s y0 y1 y2 g0) σ l0 l3 (l3 + 1) h0
      · refine tr_aload_n (i := 0) dX12_fullest_32 rfl ?_
        refine tr_iload_n (i := 2) dX12_fullest_33 rfl ?_
        refine tr_c_i (ms_cV (rest := []) (al := [.int l3]) 12 (sp_X12_marksOf G hG (d - 1) (by omega) σ l0 l3 h0) h0 (by decide +kernel) kl_X12_186 fv_X12_marksOf dX12_fullest_34 (show _ = some 1 by decide +kernel) (by omega) (Nat.le_of_ble_eq_true rfl) (by decide) (by decide)) (fun v4 => ?_)
        refine tr_aload_n (i := 0) dX12_fullest_37 rfl ?_
        refine tr_iload_n (i := 1) dX12_fullest_38 rfl ?_
        refine tr_c_i (ms_cV (rest := [.int v4]) (al := [.int l2]) 12 (sp_X12_marksOf G hG (d - 1) (by omega) σ l0 l2 h0) h0 (by decide +kernel) kl_X12_186 fv_X12_marksOf dX12_fullest_39 (show _ = some 1 by decide +kernel) (by omega) (Nat.le_of_ble_eq_true rfl) (by decide) (by decide)) (fun v5 => ?_)
        refine tr_icle (o := none) (tgt := 49) dX12_fullest_42 (by decide) ?_ ?_
        · refine tr_iload_n (i := 1) dX12_fullest_49 rfl ?_
          refine tr_istore_n (lv' := [(0, .ref l0), (2, .int l2), (3, .int l3)]) [1, 0, 2] dX12_fullest_50 (by decide) rfl ?_
          refine tr_iinc (k := 2) (v := (l3 + 1)) (lv' := [(0, .ref l0), (2, .int l2), (3, .int (l3 + 1))]) [1, 2, 0] dX12_fullest_51 rfl rfl (by decide) rfl ?_
          refine tr_goto (tgt := 19) dX12_fullest_54 (by decide) ?_
          exact (fun s y0 y1 y2 g0 => ih s y0 y1 y2 g0) σ l0 l2 (l3 + 1) h0
        · refine tr_iload_n (i := 2) dX12_fullest_45 rfl ?_
          refine tr_goto (tgt := 50) dX12_fullest_46 (by decide) ?_
          refine tr_istore_n (lv' := [(0, .ref l0), (2, .int l3), (3, .int l3)]) [1, 0, 2] dX12_fullest_50 (by decide) rfl ?_
          refine tr_iinc (k := 2) (v := (l3 + 1)) (lv' := [(0, .ref l0), (2, .int l3), (3, .int (l3 + 1))]) [1, 2, 0] dX12_fullest_51 rfl rfl (by decide) rfl ?_
          refine tr_goto (tgt := 19) dX12_fullest_54 (by decide) ?_
          exact (fun s y0 y1 y2 g0 => ih s y0 y1 y2 g0) σ l0 l3 (l3 + 1) h0
set_option maxRecDepth 100000 in
theorem sp_X12_fullest (G : MG) (hG : (g_l G).stackTraces = false) (d : Nat) (hd : 7 ≤ d)   (σ : MsSt) (l0 : Nat) (l1 : Int32) (h0 : ms_kd l0 = 13) : MsSpec G mX12_fullest d 0 0 [.ref l0, .int l1] σ ms_wi (f_X12_fullest σ l0 l1) := by
  refine ms_start (by decide +kernel) rfl rfl (Nat.le_of_ble_eq_true rfl) ?_
  show TrO G mX12_fullest d 0 0 0 0 ms_wi 0 [(0, .ref l0), (1, .int l1)] [] σ (ms_b2 (f_X12_noLine σ l0 l1) fun v1 s2 => if v1 = 0 then (f_X12_layClusters s2 l0 l1).bind fun s3 => f_X12_fullest_19 ms_fuel s3 l0 (-1) 0 else some (0, s2))
  refine tr_aload_n (i := 0) dX12_fullest_0 rfl ?_
  refine tr_iload_n (i := 1) dX12_fullest_1 rfl ?_
  refine tr_d_wi (ms_cV (rest := []) (al := [.int l1]) 12 (sp_X12_noLine G hG (d - 1) (by omega) σ l0 l1 h0) h0 (by decide +kernel) kl_X12_247 fv_X12_noLine dX12_fullest_2 (show _ = some 1 by decide +kernel) (by omega) (Nat.le_of_ble_eq_true rfl) (by decide) (by decide)) (fun v1 s2 => ?_)
  refine tr_ifeq (o := none) (tgt := 10) dX12_fullest_5 (by decide) ?_ ?_
  · refine tr_aload_n (i := 0) dX12_fullest_10 rfl ?_
    refine tr_iload_n (i := 1) dX12_fullest_11 rfl ?_
    refine tr_c_wv (ms_cV (rest := []) (al := [.int l1]) 12 (sp_X12_layClusters G hG (d - 1) (by omega) s2 l0 l1 h0) h0 (by decide +kernel) kl_X12_180 fv_X12_layClusters dX12_fullest_12 (show _ = some 1 by decide +kernel) (by omega) (Nat.le_of_ble_eq_true rfl) (by decide) (by decide)) (fun s3 => ?_)
    refine tr_iconst (v := (-1)) dX12_fullest_15 (by decide +kernel) ?_
    refine tr_istore_n (lv' := [(0, .ref l0), (2, .int (-1))]) [1, 0] dX12_fullest_16 (by decide) rfl ?_
    refine tr_iconst (v := 0) dX12_fullest_17 (by decide +kernel) ?_
    refine tr_istore_n (lv' := [(0, .ref l0), (2, .int (-1)), (3, .int 0)]) [1, 2, 0] dX12_fullest_18 (by decide) rfl ?_
    exact t_X12_fullest_19 G hG d hd ms_fuel s3 l0 (-1) 0 h0
  · refine tr_iconst (v := 0) dX12_fullest_8 (by decide +kernel) ?_
    exact tr_iret rfl rfl (by decide) (by decide) dX12_fullest_9
theorem dX12_layTwo_0 : decode cX12_layTwo 0 = .ok (.aload_n 0, 1) := by decide +kernel
theorem dX12_layTwo_1 : decode cX12_layTwo 1 = .ok (.iload_n 2, 1) := by decide +kernel
theorem dX12_layTwo_2 : decode cX12_layTwo 2 = .ok (.invokevirtual 180, 3) := by decide +kernel
theorem dX12_layTwo_5 : decode cX12_layTwo 5 = .ok (.aload_n 0, 1) := by decide +kernel
theorem dX12_layTwo_6 : decode cX12_layTwo 6 = .ok (.aload_n 0, 1) := by decide +kernel
theorem dX12_layTwo_7 : decode cX12_layTwo 7 = .ok (.getfield 132, 3) := by decide +kernel
theorem dX12_layTwo_10 : decode cX12_layTwo 10 = .ok (.putfield 290, 3) := by decide +kernel
theorem dX12_layTwo_13 : decode cX12_layTwo 13 = .ok (.aload_n 0, 1) := by decide +kernel
theorem dX12_layTwo_14 : decode cX12_layTwo 14 = .ok (.aload_n 0, 1) := by decide +kernel
theorem dX12_layTwo_15 : decode cX12_layTwo 15 = .ok (.getfield 168, 3) := by decide +kernel
theorem dX12_layTwo_18 : decode cX12_layTwo 18 = .ok (.putfield 293, 3) := by decide +kernel
theorem dX12_layTwo_21 : decode cX12_layTwo 21 = .ok (.iconst 0, 1) := by decide +kernel
theorem dX12_layTwo_22 : decode cX12_layTwo 22 = .ok (.istore_n 3, 1) := by decide +kernel
theorem dX12_layTwo_23 : decode cX12_layTwo 23 = .ok (.iload_n 3, 1) := by decide +kernel
theorem dX12_layTwo_24 : decode cX12_layTwo 24 = .ok (.aload_n 0, 1) := by decide +kernel
theorem dX12_layTwo_25 : decode cX12_layTwo 25 = .ok (.getfield 132, 3) := by decide +kernel
theorem dX12_layTwo_28 : decode cX12_layTwo 28 = .ok (.if_icmp .ge 21, 3) := by decide +kernel
theorem dX12_layTwo_31 : decode cX12_layTwo 31 = .ok (.aload_n 0, 1) := by decide +kernel
theorem dX12_layTwo_32 : decode cX12_layTwo 32 = .ok (.getfield 53, 3) := by decide +kernel
theorem dX12_layTwo_35 : decode cX12_layTwo 35 = .ok (.iload_n 3, 1) := by decide +kernel
theorem dX12_layTwo_36 : decode cX12_layTwo 36 = .ok (.aload_n 0, 1) := by decide +kernel
theorem dX12_layTwo_37 : decode cX12_layTwo 37 = .ok (.getfield 31, 3) := by decide +kernel
theorem dX12_layTwo_40 : decode cX12_layTwo 40 = .ok (.iload_n 3, 1) := by decide +kernel
theorem dX12_layTwo_41 : decode cX12_layTwo 41 = .ok (.iaload, 1) := by decide +kernel
theorem dX12_layTwo_42 : decode cX12_layTwo 42 = .ok (.iastore, 1) := by decide +kernel
theorem dX12_layTwo_43 : decode cX12_layTwo 43 = .ok (.iinc 3 1, 3) := by decide +kernel
theorem dX12_layTwo_46 : decode cX12_layTwo 46 = .ok (.goto (-23), 3) := by decide +kernel
theorem dX12_layTwo_49 : decode cX12_layTwo 49 = .ok (.iconst 0, 1) := by decide +kernel
theorem dX12_layTwo_50 : decode cX12_layTwo 50 = .ok (.istore_n 3, 1) := by decide +kernel
theorem dX12_layTwo_51 : decode cX12_layTwo 51 = .ok (.iload_n 3, 1) := by decide +kernel
theorem dX12_layTwo_52 : decode cX12_layTwo 52 = .ok (.aload_n 0, 1) := by decide +kernel
theorem dX12_layTwo_53 : decode cX12_layTwo 53 = .ok (.getfield 168, 3) := by decide +kernel
theorem dX12_layTwo_56 : decode cX12_layTwo 56 = .ok (.if_icmp .gt 21, 3) := by decide +kernel
theorem dX12_layTwo_59 : decode cX12_layTwo 59 = .ok (.aload_n 0, 1) := by decide +kernel
theorem dX12_layTwo_60 : decode cX12_layTwo 60 = .ok (.getfield 56, 3) := by decide +kernel
theorem dX12_layTwo_63 : decode cX12_layTwo 63 = .ok (.iload_n 3, 1) := by decide +kernel
theorem dX12_layTwo_64 : decode cX12_layTwo 64 = .ok (.aload_n 0, 1) := by decide +kernel
theorem dX12_layTwo_65 : decode cX12_layTwo 65 = .ok (.getfield 40, 3) := by decide +kernel
theorem dX12_layTwo_68 : decode cX12_layTwo 68 = .ok (.iload_n 3, 1) := by decide +kernel
theorem dX12_layTwo_69 : decode cX12_layTwo 69 = .ok (.iaload, 1) := by decide +kernel
theorem dX12_layTwo_70 : decode cX12_layTwo 70 = .ok (.iastore, 1) := by decide +kernel
theorem dX12_layTwo_71 : decode cX12_layTwo 71 = .ok (.iinc 3 1, 3) := by decide +kernel
theorem dX12_layTwo_74 : decode cX12_layTwo 74 = .ok (.goto (-23), 3) := by decide +kernel
theorem dX12_layTwo_77 : decode cX12_layTwo 77 = .ok (.aload_n 0, 1) := by decide +kernel
theorem dX12_layTwo_78 : decode cX12_layTwo 78 = .ok (.iload_n 1, 1) := by decide +kernel
theorem dX12_layTwo_79 : decode cX12_layTwo 79 = .ok (.invokevirtual 180, 3) := by decide +kernel
theorem dX12_layTwo_82 : decode cX12_layTwo 82 = .ok (.return_, 1) := by decide +kernel
set_option maxRecDepth 100000 in
theorem t_X12_layTwo_51 (G : MG) (hG : (g_l G).stackTraces = false) (d : Nat) (hd : 7 ≤ d)    : ∀ (n : Nat) (σ : MsSt) (l0 : Nat) (l1 : Int32) (l3 : Int32) (h0 : ms_kd l0 = 13), TrO G mX12_layTwo d 0 0 0 0 ms_wv 51 [(0, .ref l0), (1, .int l1), (3, .int l3)] [] σ (f_X12_layTwo_51 n σ l0 l1 l3) := by
  intro n
  induction n with
  | zero => exact fun _ _ _ _ _ => tr_none
  | succ n ih =>
    intro σ l0 l1 l3 h0
    show TrO G mX12_layTwo d 0 0 0 0 ms_wv 51 [(0, .ref l0), (1, .int l1), (3, .int l3)] [] σ (if (ms_i σ l0 17) < l3 then (f_X12_layClusters σ l0 l1).bind fun s4 => some s4 else (ms_ald σ (ms_rf l0 16) l3).bind fun v5 => (ms_ast σ (ms_rf l0 21) l3 v5).bind fun s6 => (f_X12_layTwo_51 n) s6 l0 l1 (l3 + 1))
    refine tr_iload_n (i := 2) dX12_layTwo_51 rfl ?_
    refine tr_aload_n (i := 0) dX12_layTwo_52 rfl ?_
    refine tr_getI 12 h0 fl_X12_168 (by decide +kernel) dX12_layTwo_53 ?_
    refine tr_icgt (o := none) (tgt := 77) dX12_layTwo_56 (by decide) ?_ ?_
    · refine tr_aload_n (i := 0) dX12_layTwo_77 rfl ?_
      refine tr_iload_n (i := 1) dX12_layTwo_78 rfl ?_
      refine tr_c_wv (ms_cV (rest := []) (al := [.int l1]) 12 (sp_X12_layClusters G hG (d - 1) (by omega) σ l0 l1 h0) h0 (by decide +kernel) kl_X12_180 fv_X12_layClusters dX12_layTwo_79 (show _ = some 1 by decide +kernel) (by omega) (Nat.le_of_ble_eq_true rfl) (by decide) (by decide)) (fun s4 => ?_)
      exact tr_vret rfl rfl (by decide) (by decide) dX12_layTwo_82
    · refine tr_aload_n (i := 0) dX12_layTwo_59 rfl ?_
      refine tr_getR 12 h0 fl_X12_56 (by decide +kernel) dX12_layTwo_60 ?_
      refine tr_iload_n (i := 2) dX12_layTwo_63 rfl ?_
      refine tr_aload_n (i := 0) dX12_layTwo_64 rfl ?_
      refine tr_getR 12 h0 fl_X12_40 (by decide +kernel) dX12_layTwo_65 ?_
      refine tr_iload_n (i := 2) dX12_layTwo_68 rfl ?_
      refine tr_ald (rk_12_16 h0) dX12_layTwo_69 (fun v5 => ?_)
      refine tr_ast (rk_12_21 h0) dX12_layTwo_70 (fun s6 => ?_)
      refine tr_iinc (k := 2) (v := (l3 + 1)) (lv' := [(0, .ref l0), (1, .int l1), (3, .int (l3 + 1))]) [1, 2, 0] dX12_layTwo_71 rfl rfl (by decide) rfl ?_
      refine tr_goto (tgt := 51) dX12_layTwo_74 (by decide) ?_
      exact (fun s y0 y1 y2 g0 => ih s y0 y1 y2 g0) s6 l0 l1 (l3 + 1) h0
set_option maxRecDepth 100000 in
theorem t_X12_layTwo_23 (G : MG) (hG : (g_l G).stackTraces = false) (d : Nat) (hd : 7 ≤ d)    : ∀ (n : Nat) (σ : MsSt) (l0 : Nat) (l1 : Int32) (l3 : Int32) (h0 : ms_kd l0 = 13), TrO G mX12_layTwo d 0 0 0 0 ms_wv 23 [(0, .ref l0), (1, .int l1), (3, .int l3)] [] σ (f_X12_layTwo_23 n σ l0 l1 l3) := by
  intro n
  induction n with
  | zero => exact fun _ _ _ _ _ => tr_none
  | succ n ih =>
    intro σ l0 l1 l3 h0
    show TrO G mX12_layTwo d 0 0 0 0 ms_wv 23 [(0, .ref l0), (1, .int l1), (3, .int l3)] [] σ (if l3 < (ms_i σ l0 11) then (ms_ald σ (ms_rf l0 10) l3).bind fun v7 => (ms_ast σ (ms_rf l0 20) l3 v7).bind fun s8 => (f_X12_layTwo_23 n) s8 l0 l1 (l3 + 1) else f_X12_layTwo_51 ms_fuel σ l0 l1 0)
    refine tr_iload_n (i := 2) dX12_layTwo_23 rfl ?_
    refine tr_aload_n (i := 0) dX12_layTwo_24 rfl ?_
    refine tr_getI 12 h0 fl_X12_132 (by decide +kernel) dX12_layTwo_25 ?_
    refine tr_icge (o := none) (tgt := 49) dX12_layTwo_28 (by decide) ?_ ?_
    · refine tr_iconst (v := 0) dX12_layTwo_49 (by decide +kernel) ?_
      refine tr_istore_n (lv' := [(0, .ref l0), (1, .int l1), (3, .int 0)]) [1, 2, 0] dX12_layTwo_50 (by decide) rfl ?_
      exact t_X12_layTwo_51 G hG d hd ms_fuel σ l0 l1 0 h0
    · refine tr_aload_n (i := 0) dX12_layTwo_31 rfl ?_
      refine tr_getR 12 h0 fl_X12_53 (by decide +kernel) dX12_layTwo_32 ?_
      refine tr_iload_n (i := 2) dX12_layTwo_35 rfl ?_
      refine tr_aload_n (i := 0) dX12_layTwo_36 rfl ?_
      refine tr_getR 12 h0 fl_X12_31 (by decide +kernel) dX12_layTwo_37 ?_
      refine tr_iload_n (i := 2) dX12_layTwo_40 rfl ?_
      refine tr_ald (rk_12_10 h0) dX12_layTwo_41 (fun v7 => ?_)
      refine tr_ast (rk_12_20 h0) dX12_layTwo_42 (fun s8 => ?_)
      refine tr_iinc (k := 2) (v := (l3 + 1)) (lv' := [(0, .ref l0), (1, .int l1), (3, .int (l3 + 1))]) [1, 2, 0] dX12_layTwo_43 rfl rfl (by decide) rfl ?_
      refine tr_goto (tgt := 23) dX12_layTwo_46 (by decide) ?_
      exact (fun s y0 y1 y2 g0 => ih s y0 y1 y2 g0) s8 l0 l1 (l3 + 1) h0
set_option maxRecDepth 100000 in
theorem sp_X12_layTwo (G : MG) (hG : (g_l G).stackTraces = false) (d : Nat) (hd : 7 ≤ d)   (σ : MsSt) (l0 : Nat) (l1 : Int32) (l2 : Int32) (h0 : ms_kd l0 = 13) : MsSpec G mX12_layTwo d 0 0 [.ref l0, .int l1, .int l2] σ ms_wv (f_X12_layTwo σ l0 l1 l2) := by
  refine ms_start (by decide +kernel) rfl rfl (Nat.le_of_ble_eq_true rfl) ?_
  show TrO G mX12_layTwo d 0 0 0 0 ms_wv 0 [(0, .ref l0), (1, .int l1), (2, .int l2)] [] σ ((f_X12_layClusters σ l0 l2).bind fun s1 => ms_nm (ms_si s1 l0 22 (ms_i s1 l0 11)) fun s2 => ms_nm (ms_si s2 l0 23 (ms_i s2 l0 17)) fun s3 => f_X12_layTwo_23 ms_fuel s3 l0 l1 0)
  refine tr_aload_n (i := 0) dX12_layTwo_0 rfl ?_
  refine tr_iload_n (i := 2) dX12_layTwo_1 rfl ?_
  refine tr_c_wv (ms_cV (rest := []) (al := [.int l2]) 12 (sp_X12_layClusters G hG (d - 1) (by omega) σ l0 l2 h0) h0 (by decide +kernel) kl_X12_180 fv_X12_layClusters dX12_layTwo_2 (show _ = some 1 by decide +kernel) (by omega) (Nat.le_of_ble_eq_true rfl) (by decide) (by decide)) (fun s1 => ?_)
  refine tr_aload_n (i := 0) dX12_layTwo_5 rfl ?_
  refine tr_aload_n (i := 0) dX12_layTwo_6 rfl ?_
  refine tr_getI 12 h0 fl_X12_132 (by decide +kernel) dX12_layTwo_7 ?_
  refine tr_putI 12 h0 fl_X12_290 (by decide +kernel) dX12_layTwo_10 ?_
  refine ms_ltS (fun s2 => ?_)
  refine tr_aload_n (i := 0) dX12_layTwo_13 rfl ?_
  refine tr_aload_n (i := 0) dX12_layTwo_14 rfl ?_
  refine tr_getI 12 h0 fl_X12_168 (by decide +kernel) dX12_layTwo_15 ?_
  refine tr_putI 12 h0 fl_X12_293 (by decide +kernel) dX12_layTwo_18 ?_
  refine ms_ltS (fun s3 => ?_)
  refine tr_iconst (v := 0) dX12_layTwo_21 (by decide +kernel) ?_
  refine tr_istore_n (lv' := [(0, .ref l0), (1, .int l1), (3, .int 0)]) [1, 2, 0] dX12_layTwo_22 (by decide) rfl ?_
  exact t_X12_layTwo_23 G hG d hd ms_fuel s3 l0 l1 0 h0
