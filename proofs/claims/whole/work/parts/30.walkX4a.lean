/-! X4: the bytecode does what the functions say (by program: wip/whole/gen) -/
theorem dX4_tellLine_0 : decode cX4_tellLine 0 = .ok (.aload_n 0, 1) := by decide +kernel
theorem dX4_tellLine_1 : decode cX4_tellLine 1 = .ok (.getfield 24, 3) := by decide +kernel
theorem dX4_tellLine_4 : decode cX4_tellLine 4 = .ok (.aload_n 0, 1) := by decide +kernel
theorem dX4_tellLine_5 : decode cX4_tellLine 5 = .ok (.getfield 15, 3) := by decide +kernel
theorem dX4_tellLine_8 : decode cX4_tellLine 8 = .ok (.aload_n 0, 1) := by decide +kernel
theorem dX4_tellLine_9 : decode cX4_tellLine 9 = .ok (.getfield 15, 3) := by decide +kernel
theorem dX4_tellLine_12 : decode cX4_tellLine 12 = .ok (.getfield 75, 3) := by decide +kernel
theorem dX4_tellLine_15 : decode cX4_tellLine 15 = .ok (.invokevirtual 81, 3) := by decide +kernel
theorem dX4_tellLine_18 : decode cX4_tellLine 18 = .ok (.invokevirtual 85, 3) := by decide +kernel
theorem dX4_tellLine_21 : decode cX4_tellLine 21 = .ok (.aload_n 0, 1) := by decide +kernel
theorem dX4_tellLine_22 : decode cX4_tellLine 22 = .ok (.getfield 28, 3) := by decide +kernel
theorem dX4_tellLine_25 : decode cX4_tellLine 25 = .ok (.invokevirtual 89, 3) := by decide +kernel
theorem dX4_tellLine_28 : decode cX4_tellLine 28 = .ok (.iconst 0, 1) := by decide +kernel
theorem dX4_tellLine_29 : decode cX4_tellLine 29 = .ok (.istore_n 1, 1) := by decide +kernel
theorem dX4_tellLine_30 : decode cX4_tellLine 30 = .ok (.iload_n 1, 1) := by decide +kernel
theorem dX4_tellLine_31 : decode cX4_tellLine 31 = .ok (.aload_n 0, 1) := by decide +kernel
theorem dX4_tellLine_32 : decode cX4_tellLine 32 = .ok (.getfield 24, 3) := by decide +kernel
theorem dX4_tellLine_35 : decode cX4_tellLine 35 = .ok (.getfield 92, 3) := by decide +kernel
theorem dX4_tellLine_38 : decode cX4_tellLine 38 = .ok (.if_icmp .ge 28, 3) := by decide +kernel
theorem dX4_tellLine_41 : decode cX4_tellLine 41 = .ok (.aload_n 0, 1) := by decide +kernel
theorem dX4_tellLine_42 : decode cX4_tellLine 42 = .ok (.getfield 28, 3) := by decide +kernel
theorem dX4_tellLine_45 : decode cX4_tellLine 45 = .ok (.aload_n 0, 1) := by decide +kernel
theorem dX4_tellLine_46 : decode cX4_tellLine 46 = .ok (.getfield 15, 3) := by decide +kernel
theorem dX4_tellLine_49 : decode cX4_tellLine 49 = .ok (.aload_n 0, 1) := by decide +kernel
theorem dX4_tellLine_50 : decode cX4_tellLine 50 = .ok (.getfield 24, 3) := by decide +kernel
theorem dX4_tellLine_53 : decode cX4_tellLine 53 = .ok (.iload_n 1, 1) := by decide +kernel
theorem dX4_tellLine_54 : decode cX4_tellLine 54 = .ok (.invokevirtual 95, 3) := by decide +kernel
theorem dX4_tellLine_57 : decode cX4_tellLine 57 = .ok (.invokevirtual 99, 3) := by decide +kernel
theorem dX4_tellLine_60 : decode cX4_tellLine 60 = .ok (.iinc 1 1, 3) := by decide +kernel
theorem dX4_tellLine_63 : decode cX4_tellLine 63 = .ok (.goto (-33), 3) := by decide +kernel
theorem dX4_tellLine_66 : decode cX4_tellLine 66 = .ok (.return_, 1) := by decide +kernel
set_option maxRecDepth 100000 in
theorem t_X4_tellLine_30 (G : MG) (hG : (g_l G).stackTraces = false) (d : Nat) (hd : 3 ≤ d)    : ∀ (n : Nat) (σ : MsSt) (l0 : Nat) (l1 : Int32) (h0 : ms_kd l0 = 5), TrO G mX4_tellLine d 0 0 0 0 ms_wv 30 [(0, .ref l0), (1, .int l1)] [] σ (f_X4_tellLine_30 n σ l0 l1) := by
  intro n
  induction n with
  | zero => exact fun _ _ _ _ => tr_none
  | succ n ih =>
    intro σ l0 l1 h0
    show TrO G mX4_tellLine d 0 0 0 0 ms_wv 30 [(0, .ref l0), (1, .int l1)] [] σ (if l1 < (ms_i σ (ms_rf l0 2) 1) then (f_X6_clusterAt σ (ms_rf l0 1) (ms_rf l0 2) l1).bind fun v4 => (f_X5_add σ (ms_rf l0 3) v4).bind fun s5 => (f_X4_tellLine_30 n) s5 l0 (l1 + 1) else some σ)
    refine tr_iload_n (i := 1) dX4_tellLine_30 rfl ?_
    refine tr_aload_n (i := 0) dX4_tellLine_31 rfl ?_
    refine tr_getR 4 h0 fl_X4_24 (by decide +kernel) dX4_tellLine_32 ?_
    refine tr_getI 5 (rk_4_2 h0) fl_X4_92 (by decide +kernel) dX4_tellLine_35 ?_
    refine tr_icge (o := none) (tgt := 66) dX4_tellLine_38 (by decide) ?_ ?_
    · exact tr_vret rfl rfl (by decide) (by decide) dX4_tellLine_66
    · refine tr_aload_n (i := 0) dX4_tellLine_41 rfl ?_
      refine tr_getR 4 h0 fl_X4_28 (by decide +kernel) dX4_tellLine_42 ?_
      refine tr_aload_n (i := 0) dX4_tellLine_45 rfl ?_
      refine tr_getR 4 h0 fl_X4_15 (by decide +kernel) dX4_tellLine_46 ?_
      refine tr_aload_n (i := 0) dX4_tellLine_49 rfl ?_
      refine tr_getR 4 h0 fl_X4_24 (by decide +kernel) dX4_tellLine_50 ?_
      refine tr_iload_n (i := 1) dX4_tellLine_53 rfl ?_
      refine tr_c_i (ms_cV (rest := [.ref (ms_rf l0 3)]) (al := [.ref (ms_rf l0 2), .int l1]) 6 (sp_X6_clusterAt G hG (d - 1) (by omega) σ (ms_rf l0 1) (ms_rf l0 2) l1 (rk_4_1 h0) (rk_4_2 h0)) (rk_4_1 h0) (by decide +kernel) kl_X4_95 fv_X6_clusterAt dX4_tellLine_54 (show _ = some 2 by decide +kernel) (by omega) (Nat.le_of_ble_eq_true rfl) (by decide) (by decide)) (fun v4 => ?_)
      refine tr_c_wv (ms_cV (rest := []) (al := [.int v4]) 5 (sp_X5_add G hG (d - 1) (by omega) σ (ms_rf l0 3) v4 (rk_4_3 h0)) (rk_4_3 h0) (by decide +kernel) kl_X4_99 fv_X5_add dX4_tellLine_57 (show _ = some 1 by decide +kernel) (by omega) (Nat.le_of_ble_eq_true rfl) (by decide) (by decide)) (fun s5 => ?_)
      refine tr_iinc (k := 1) (v := (l1 + 1)) (lv' := [(0, .ref l0), (1, .int (l1 + 1))]) [1, 0] dX4_tellLine_60 rfl rfl (by decide) rfl ?_
      refine tr_goto (tgt := 30) dX4_tellLine_63 (by decide) ?_
      exact (fun s y0 y1 g0 => ih s y0 y1 g0) s5 l0 (l1 + 1) h0
set_option maxRecDepth 100000 in
theorem sp_X4_tellLine (G : MG) (hG : (g_l G).stackTraces = false) (d : Nat) (hd : 3 ≤ d)   (σ : MsSt) (l0 : Nat) (h0 : ms_kd l0 = 5) : MsSpec G mX4_tellLine d 0 0 [.ref l0] σ ms_wv (f_X4_tellLine σ l0) := by
  refine ms_start (by decide +kernel) rfl rfl (Nat.le_of_ble_eq_true rfl) ?_
  show TrO G mX4_tellLine d 0 0 0 0 ms_wv 0 [(0, .ref l0)] [] σ ((f_X6_lineAt σ (ms_rf l0 1) (ms_i σ (ms_rf l0 1) 6)).bind fun v1 => (f_X5_takeOver σ (ms_rf l0 2) v1).bind fun s2 => (f_X5_clear s2 (ms_rf l0 3)).bind fun s3 => f_X4_tellLine_30 ms_fuel s3 l0 0)
  refine tr_aload_n (i := 0) dX4_tellLine_0 rfl ?_
  refine tr_getR 4 h0 fl_X4_24 (by decide +kernel) dX4_tellLine_1 ?_
  refine tr_aload_n (i := 0) dX4_tellLine_4 rfl ?_
  refine tr_getR 4 h0 fl_X4_15 (by decide +kernel) dX4_tellLine_5 ?_
  refine tr_aload_n (i := 0) dX4_tellLine_8 rfl ?_
  refine tr_getR 4 h0 fl_X4_15 (by decide +kernel) dX4_tellLine_9 ?_
  refine tr_getI 6 (rk_4_1 h0) fl_X4_75 (by decide +kernel) dX4_tellLine_12 ?_
  refine tr_c_a (ms_cV (rest := [.ref (ms_rf l0 2)]) (al := [.int (ms_i σ (ms_rf l0 1) 6)]) 6 (sp_X6_lineAt G hG (d - 1) (by omega) σ (ms_rf l0 1) (ms_i σ (ms_rf l0 1) 6) (rk_4_1 h0)) (rk_4_1 h0) (by decide +kernel) kl_X4_81 fv_X6_lineAt dX4_tellLine_15 (show _ = some 1 by decide +kernel) (by omega) (Nat.le_of_ble_eq_true rfl) (by decide) (by decide)) (fun v1 e_v1 => ?_)
  refine tr_c_wv (ms_cV (rest := []) (al := [.ref v1]) 5 (sp_X5_takeOver G hG (d - 1) (by omega) σ (ms_rf l0 2) v1 (rk_4_2 h0) (ra_X6_lineAt (rk_4_1 h0) e_v1)) (rk_4_2 h0) (by decide +kernel) kl_X4_85 fv_X5_takeOver dX4_tellLine_18 (show _ = some 1 by decide +kernel) (by omega) (Nat.le_of_ble_eq_true rfl) (by decide) (by decide)) (fun s2 => ?_)
  refine tr_aload_n (i := 0) dX4_tellLine_21 rfl ?_
  refine tr_getR 4 h0 fl_X4_28 (by decide +kernel) dX4_tellLine_22 ?_
  refine tr_c_wv (ms_cV (rest := []) (al := []) 5 (sp_X5_clear G hG (d - 1) (by omega) s2 (ms_rf l0 3) (rk_4_3 h0)) (rk_4_3 h0) (by decide +kernel) kl_X4_89 fv_X5_clear dX4_tellLine_25 (show _ = some 0 by decide +kernel) (by omega) (Nat.le_of_ble_eq_true rfl) (by decide) (by decide)) (fun s3 => ?_)
  refine tr_iconst (v := 0) dX4_tellLine_28 (by decide +kernel) ?_
  refine tr_istore_n (lv' := [(0, .ref l0), (1, .int 0)]) [1, 0] dX4_tellLine_29 (by decide) rfl ?_
  exact t_X4_tellLine_30 G hG d hd ms_fuel s3 l0 0 h0
theorem dX4_readConjunction_0 : decode cX4_readConjunction 0 = .ok (.aload_n 0, 1) := by decide +kernel
theorem dX4_readConjunction_1 : decode cX4_readConjunction 1 = .ok (.iload_n 1, 1) := by decide +kernel
theorem dX4_readConjunction_2 : decode cX4_readConjunction 2 = .ok (.invokevirtual 107, 3) := by decide +kernel
theorem dX4_readConjunction_5 : decode cX4_readConjunction 5 = .ok (.lstore_n 2, 1) := by decide +kernel
theorem dX4_readConjunction_6 : decode cX4_readConjunction 6 = .ok (.iconst 0, 1) := by decide +kernel
theorem dX4_readConjunction_7 : decode cX4_readConjunction 7 = .ok (.istore 4, 2) := by decide +kernel
theorem dX4_readConjunction_9 : decode cX4_readConjunction 9 = .ok (.iload 4, 2) := by decide +kernel
theorem dX4_readConjunction_11 : decode cX4_readConjunction 11 = .ok (.sipush 200, 3) := by decide +kernel
theorem dX4_readConjunction_14 : decode cX4_readConjunction 14 = .ok (.if_icmp .ge 36, 3) := by decide +kernel
theorem dX4_readConjunction_17 : decode cX4_readConjunction 17 = .ok (.aload_n 0, 1) := by decide +kernel
theorem dX4_readConjunction_18 : decode cX4_readConjunction 18 = .ok (.getfield 9, 3) := by decide +kernel
theorem dX4_readConjunction_21 : decode cX4_readConjunction 21 = .ok (.ldc 110, 2) := by decide +kernel
theorem dX4_readConjunction_23 : decode cX4_readConjunction 23 = .ok (.invokevirtual 47, 3) := by decide +kernel
theorem dX4_readConjunction_26 : decode cX4_readConjunction 26 = .ok (.ifCond .eq 24, 3) := by decide +kernel
theorem dX4_readConjunction_29 : decode cX4_readConjunction 29 = .ok (.aload_n 0, 1) := by decide +kernel
theorem dX4_readConjunction_30 : decode cX4_readConjunction 30 = .ok (.getfield 9, 3) := by decide +kernel
theorem dX4_readConjunction_33 : decode cX4_readConjunction 33 = .ok (.invokevirtual 56, 3) := by decide +kernel
theorem dX4_readConjunction_36 : decode cX4_readConjunction 36 = .ok (.lload_n 2, 1) := by decide +kernel
theorem dX4_readConjunction_37 : decode cX4_readConjunction 37 = .ok (.aload_n 0, 1) := by decide +kernel
theorem dX4_readConjunction_38 : decode cX4_readConjunction 38 = .ok (.iload_n 1, 1) := by decide +kernel
theorem dX4_readConjunction_39 : decode cX4_readConjunction 39 = .ok (.invokevirtual 107, 3) := by decide +kernel
theorem dX4_readConjunction_42 : decode cX4_readConjunction 42 = .ok (.land, 1) := by decide +kernel
theorem dX4_readConjunction_43 : decode cX4_readConjunction 43 = .ok (.lstore_n 2, 1) := by decide +kernel
theorem dX4_readConjunction_44 : decode cX4_readConjunction 44 = .ok (.iinc 4 1, 3) := by decide +kernel
theorem dX4_readConjunction_47 : decode cX4_readConjunction 47 = .ok (.goto (-38), 3) := by decide +kernel
theorem dX4_readConjunction_50 : decode cX4_readConjunction 50 = .ok (.lload_n 2, 1) := by decide +kernel
theorem dX4_readConjunction_51 : decode cX4_readConjunction 51 = .ok (.lreturn, 1) := by decide +kernel
set_option maxRecDepth 100000 in
theorem t_X4_readConjunction_9 (G : MG) (hG : (g_l G).stackTraces = false) (d : Nat) (hd : 5 ≤ d) (r_X4_readFactor : MsSt → Nat → Int32 → Option (Int64 × MsSt)) (dr : Nat) (hdr : dr + 1 ≤ d) (hr_X4_readFactor : ∀ (s : MsSt) (x0 : Nat) (x1 : Int32), ms_kd x0 = 5 → MsSpec G mX4_readFactor dr 0 0 [.ref x0, .int x1] s ms_wj (r_X4_readFactor s x0 x1))  : ∀ (n : Nat) (σ : MsSt) (l0 : Nat) (l1 : Int32) (l2 : Int64) (l4 : Int32) (h0 : ms_kd l0 = 5), TrO G mX4_readConjunction d 0 0 0 0 ms_wj 9 [(0, .ref l0), (1, .int l1), (2, .long l2), (4, .int l4)] [] σ (f_X4_readConjunction_9 r_X4_readFactor n σ l0 l1 l2 l4) := by
  intro n
  induction n with
  | zero => exact fun _ _ _ _ _ _ => tr_none
  | succ n ih =>
    intro σ l0 l1 l2 l4 h0
    show TrO G mX4_readConjunction d 0 0 0 0 ms_wj 9 [(0, .ref l0), (1, .int l1), (2, .long l2), (4, .int l4)] [] σ (if l4 < 200 then (f_X9_isWord σ (ms_rf l0 0) 628).bind fun v3 => if v3 = 0 then some (l2, σ) else (f_X9_advance σ (ms_rf l0 0)).bind fun s4 => ms_b2 (r_X4_readFactor s4 l0 l1) fun v5 s6 => (f_X4_readConjunction_9 r_X4_readFactor n) s6 l0 l1 (l2 &&& v5) (l4 + 1) else some (l2, σ))
    refine tr_iload (i := 3) dX4_readConjunction_9 rfl ?_
    refine tr_sipush (v := 200) dX4_readConjunction_11 (by decide +kernel) ?_
    refine tr_icge (o := none) (tgt := 50) dX4_readConjunction_14 (by decide) ?_ ?_
    · refine tr_lload_n (i := 2) dX4_readConjunction_50 rfl ?_
      exact tr_lret rfl rfl (by decide) (by decide) dX4_readConjunction_51
    · refine tr_aload_n (i := 0) dX4_readConjunction_17 rfl ?_
      refine tr_getR 4 h0 fl_X4_9 (by decide +kernel) dX4_readConjunction_18 ?_
      refine tr_ldcs 28 (tx := "and") (by decide) (by decide +kernel) dX4_readConjunction_21 ?_
      refine tr_c_i (ms_cV (rest := []) (al := [.ref 628]) 9 (sp_X9_isWord G hG (d - 1) (by omega) σ (ms_rf l0 0) 628 (rk_4_0 h0) (⟨by decide, by decide⟩)) (rk_4_0 h0) (by decide +kernel) kl_X4_47 fv_X9_isWord dX4_readConjunction_23 (show _ = some 1 by decide +kernel) (by omega) (Nat.le_of_ble_eq_true rfl) (by decide) (by decide)) (fun v3 => ?_)
      refine tr_ifeq (o := none) (tgt := 50) dX4_readConjunction_26 (by decide) ?_ ?_
      · refine tr_lload_n (i := 2) dX4_readConjunction_50 rfl ?_
        exact tr_lret rfl rfl (by decide) (by decide) dX4_readConjunction_51
      · refine tr_aload_n (i := 0) dX4_readConjunction_29 rfl ?_
        refine tr_getR 4 h0 fl_X4_9 (by decide +kernel) dX4_readConjunction_30 ?_
        refine tr_c_wv (ms_cV (rest := []) (al := []) 9 (sp_X9_advance G hG (d - 1) (by omega) σ (ms_rf l0 0) (rk_4_0 h0)) (rk_4_0 h0) (by decide +kernel) kl_X4_56 fv_X9_advance dX4_readConjunction_33 (show _ = some 0 by decide +kernel) (by omega) (Nat.le_of_ble_eq_true rfl) (by decide) (by decide)) (fun s4 => ?_)
        refine tr_lload_n (i := 2) dX4_readConjunction_36 rfl ?_
        refine tr_aload_n (i := 0) dX4_readConjunction_37 rfl ?_
        refine tr_iload_n (i := 1) dX4_readConjunction_38 rfl ?_
        refine tr_d_wj (ms_cV (rest := [.long l2]) (al := [.int l1]) 4 (hr_X4_readFactor s4 l0 l1 h0) h0 (by decide +kernel) kl_X4_107 fv_X4_readFactor dX4_readConjunction_39 (show _ = some 1 by decide +kernel) (by omega) (Nat.le_of_ble_eq_true rfl) (by decide) (by decide)) (fun v5 s6 => ?_)
        refine tr_land dX4_readConjunction_42 ?_
        refine tr_lstore_n (lv' := [(0, .ref l0), (1, .int l1), (2, .long (l2 &&& v5)), (4, .int l4)]) [1, 2, 0, 3] dX4_readConjunction_43 (by decide) rfl ?_
        refine tr_iinc (k := 3) (v := (l4 + 1)) (lv' := [(0, .ref l0), (1, .int l1), (2, .long (l2 &&& v5)), (4, .int (l4 + 1))]) [1, 2, 3, 0] dX4_readConjunction_44 rfl rfl (by decide) rfl ?_
        refine tr_goto (tgt := 9) dX4_readConjunction_47 (by decide) ?_
        exact (fun s y0 y1 y2 y3 g0 => ih s y0 y1 y2 y3 g0) s6 l0 l1 (l2 &&& v5) (l4 + 1) h0
set_option maxRecDepth 100000 in
theorem sp_X4_readConjunction (G : MG) (hG : (g_l G).stackTraces = false) (d : Nat) (hd : 5 ≤ d) (r_X4_readFactor : MsSt → Nat → Int32 → Option (Int64 × MsSt)) (dr : Nat) (hdr : dr + 1 ≤ d) (hr_X4_readFactor : ∀ (s : MsSt) (x0 : Nat) (x1 : Int32), ms_kd x0 = 5 → MsSpec G mX4_readFactor dr 0 0 [.ref x0, .int x1] s ms_wj (r_X4_readFactor s x0 x1)) (σ : MsSt) (l0 : Nat) (l1 : Int32) (h0 : ms_kd l0 = 5) : MsSpec G mX4_readConjunction d 0 0 [.ref l0, .int l1] σ ms_wj (f_X4_readConjunction r_X4_readFactor σ l0 l1) := by
  refine ms_start (by decide +kernel) rfl rfl (Nat.le_of_ble_eq_true rfl) ?_
  show TrO G mX4_readConjunction d 0 0 0 0 ms_wj 0 [(0, .ref l0), (1, .int l1)] [] σ (ms_b2 (r_X4_readFactor σ l0 l1) fun v1 s2 => f_X4_readConjunction_9 r_X4_readFactor ms_fuel s2 l0 l1 v1 0)
  refine tr_aload_n (i := 0) dX4_readConjunction_0 rfl ?_
  refine tr_iload_n (i := 1) dX4_readConjunction_1 rfl ?_
  refine tr_d_wj (ms_cV (rest := []) (al := [.int l1]) 4 (hr_X4_readFactor σ l0 l1 h0) h0 (by decide +kernel) kl_X4_107 fv_X4_readFactor dX4_readConjunction_2 (show _ = some 1 by decide +kernel) (by omega) (Nat.le_of_ble_eq_true rfl) (by decide) (by decide)) (fun v1 s2 => ?_)
  refine tr_lstore_n (lv' := [(0, .ref l0), (1, .int l1), (2, .long v1)]) [1, 2, 0] dX4_readConjunction_5 (by decide) rfl ?_
  refine tr_iconst (v := 0) dX4_readConjunction_6 (by decide +kernel) ?_
  refine tr_istore (lv' := [(0, .ref l0), (1, .int l1), (2, .long v1), (4, .int 0)]) [1, 2, 3, 0] dX4_readConjunction_7 (by decide) rfl ?_
  exact t_X4_readConjunction_9 G hG d hd r_X4_readFactor dr hdr hr_X4_readFactor ms_fuel s2 l0 l1 v1 0 h0
theorem dX4_readTest_0 : decode cX4_readTest 0 = .ok (.aload_n 0, 1) := by decide +kernel
theorem dX4_readTest_1 : decode cX4_readTest 1 = .ok (.iload_n 1, 1) := by decide +kernel
theorem dX4_readTest_2 : decode cX4_readTest 2 = .ok (.invokevirtual 102, 3) := by decide +kernel
theorem dX4_readTest_5 : decode cX4_readTest 5 = .ok (.lstore_n 2, 1) := by decide +kernel
theorem dX4_readTest_6 : decode cX4_readTest 6 = .ok (.iconst 0, 1) := by decide +kernel
theorem dX4_readTest_7 : decode cX4_readTest 7 = .ok (.istore 4, 2) := by decide +kernel
theorem dX4_readTest_9 : decode cX4_readTest 9 = .ok (.iload 4, 2) := by decide +kernel
theorem dX4_readTest_11 : decode cX4_readTest 11 = .ok (.sipush 200, 3) := by decide +kernel
theorem dX4_readTest_14 : decode cX4_readTest 14 = .ok (.if_icmp .ge 36, 3) := by decide +kernel
theorem dX4_readTest_17 : decode cX4_readTest 17 = .ok (.aload_n 0, 1) := by decide +kernel
theorem dX4_readTest_18 : decode cX4_readTest 18 = .ok (.getfield 9, 3) := by decide +kernel
theorem dX4_readTest_21 : decode cX4_readTest 21 = .ok (.ldc 105, 2) := by decide +kernel
theorem dX4_readTest_23 : decode cX4_readTest 23 = .ok (.invokevirtual 47, 3) := by decide +kernel
theorem dX4_readTest_26 : decode cX4_readTest 26 = .ok (.ifCond .eq 24, 3) := by decide +kernel
theorem dX4_readTest_29 : decode cX4_readTest 29 = .ok (.aload_n 0, 1) := by decide +kernel
theorem dX4_readTest_30 : decode cX4_readTest 30 = .ok (.getfield 9, 3) := by decide +kernel
theorem dX4_readTest_33 : decode cX4_readTest 33 = .ok (.invokevirtual 56, 3) := by decide +kernel
theorem dX4_readTest_36 : decode cX4_readTest 36 = .ok (.lload_n 2, 1) := by decide +kernel
theorem dX4_readTest_37 : decode cX4_readTest 37 = .ok (.aload_n 0, 1) := by decide +kernel
theorem dX4_readTest_38 : decode cX4_readTest 38 = .ok (.iload_n 1, 1) := by decide +kernel
theorem dX4_readTest_39 : decode cX4_readTest 39 = .ok (.invokevirtual 102, 3) := by decide +kernel
theorem dX4_readTest_42 : decode cX4_readTest 42 = .ok (.lor, 1) := by decide +kernel
theorem dX4_readTest_43 : decode cX4_readTest 43 = .ok (.lstore_n 2, 1) := by decide +kernel
theorem dX4_readTest_44 : decode cX4_readTest 44 = .ok (.iinc 4 1, 3) := by decide +kernel
theorem dX4_readTest_47 : decode cX4_readTest 47 = .ok (.goto (-38), 3) := by decide +kernel
theorem dX4_readTest_50 : decode cX4_readTest 50 = .ok (.lload_n 2, 1) := by decide +kernel
theorem dX4_readTest_51 : decode cX4_readTest 51 = .ok (.lreturn, 1) := by decide +kernel
set_option maxRecDepth 100000 in
theorem t_X4_readTest_9 (G : MG) (hG : (g_l G).stackTraces = false) (d : Nat) (hd : 6 ≤ d) (r_X4_readFactor : MsSt → Nat → Int32 → Option (Int64 × MsSt)) (dr : Nat) (hdr : dr + 2 ≤ d) (hr_X4_readFactor : ∀ (s : MsSt) (x0 : Nat) (x1 : Int32), ms_kd x0 = 5 → MsSpec G mX4_readFactor dr 0 0 [.ref x0, .int x1] s ms_wj (r_X4_readFactor s x0 x1))  : ∀ (n : Nat) (σ : MsSt) (l0 : Nat) (l1 : Int32) (l2 : Int64) (l4 : Int32) (h0 : ms_kd l0 = 5), TrO G mX4_readTest d 0 0 0 0 ms_wj 9 [(0, .ref l0), (1, .int l1), (2, .long l2), (4, .int l4)] [] σ (f_X4_readTest_9 r_X4_readFactor n σ l0 l1 l2 l4) := by
  intro n
  induction n with
  | zero => exact fun _ _ _ _ _ _ => tr_none
  | succ n ih =>
    intro σ l0 l1 l2 l4 h0
    show TrO G mX4_readTest d 0 0 0 0 ms_wj 9 [(0, .ref l0), (1, .int l1), (2, .long l2), (4, .int l4)] [] σ (if l4 < 200 then (f_X9_isWord σ (ms_rf l0 0) 629).bind fun v3 => if v3 = 0 then some (l2, σ) else (f_X9_advance σ (ms_rf l0 0)).bind fun s4 => ms_b2 (f_X4_readConjunction r_X4_readFactor s4 l0 l1) fun v5 s6 => (f_X4_readTest_9 r_X4_readFactor n) s6 l0 l1 (l2 ||| v5) (l4 + 1) else some (l2, σ))
    refine tr_iload (i := 3) dX4_readTest_9 rfl ?_
    refine tr_sipush (v := 200) dX4_readTest_11 (by decide +kernel) ?_
    refine tr_icge (o := none) (tgt := 50) dX4_readTest_14 (by decide) ?_ ?_
    · refine tr_lload_n (i := 2) dX4_readTest_50 rfl ?_
      exact tr_lret rfl rfl (by decide) (by decide) dX4_readTest_51
    · refine tr_aload_n (i := 0) dX4_readTest_17 rfl ?_
      refine tr_getR 4 h0 fl_X4_9 (by decide +kernel) dX4_readTest_18 ?_
      refine tr_ldcs 29 (tx := "or") (by decide) (by decide +kernel) dX4_readTest_21 ?_
      refine tr_c_i (ms_cV (rest := []) (al := [.ref 629]) 9 (sp_X9_isWord G hG (d - 1) (by omega) σ (ms_rf l0 0) 629 (rk_4_0 h0) (⟨by decide, by decide⟩)) (rk_4_0 h0) (by decide +kernel) kl_X4_47 fv_X9_isWord dX4_readTest_23 (show _ = some 1 by decide +kernel) (by omega) (Nat.le_of_ble_eq_true rfl) (by decide) (by decide)) (fun v3 => ?_)
      refine tr_ifeq (o := none) (tgt := 50) dX4_readTest_26 (by decide) ?_ ?_
      · refine tr_lload_n (i := 2) dX4_readTest_50 rfl ?_
        exact tr_lret rfl rfl (by decide) (by decide) dX4_readTest_51
      · refine tr_aload_n (i := 0) dX4_readTest_29 rfl ?_
        refine tr_getR 4 h0 fl_X4_9 (by decide +kernel) dX4_readTest_30 ?_
        refine tr_c_wv (ms_cV (rest := []) (al := []) 9 (sp_X9_advance G hG (d - 1) (by omega) σ (ms_rf l0 0) (rk_4_0 h0)) (rk_4_0 h0) (by decide +kernel) kl_X4_56 fv_X9_advance dX4_readTest_33 (show _ = some 0 by decide +kernel) (by omega) (Nat.le_of_ble_eq_true rfl) (by decide) (by decide)) (fun s4 => ?_)
        refine tr_lload_n (i := 2) dX4_readTest_36 rfl ?_
        refine tr_aload_n (i := 0) dX4_readTest_37 rfl ?_
        refine tr_iload_n (i := 1) dX4_readTest_38 rfl ?_
        refine tr_d_wj (ms_cV (rest := [.long l2]) (al := [.int l1]) 4 (sp_X4_readConjunction G hG (d - 1) (by omega) r_X4_readFactor dr (by omega) hr_X4_readFactor s4 l0 l1 h0) h0 (by decide +kernel) kl_X4_102 fv_X4_readConjunction dX4_readTest_39 (show _ = some 1 by decide +kernel) (by omega) (Nat.le_of_ble_eq_true rfl) (by decide) (by decide)) (fun v5 s6 => ?_)
        refine tr_lor dX4_readTest_42 ?_
        refine tr_lstore_n (lv' := [(0, .ref l0), (1, .int l1), (2, .long (l2 ||| v5)), (4, .int l4)]) [1, 2, 0, 3] dX4_readTest_43 (by decide) rfl ?_
        refine tr_iinc (k := 3) (v := (l4 + 1)) (lv' := [(0, .ref l0), (1, .int l1), (2, .long (l2 ||| v5)), (4, .int (l4 + 1))]) [1, 2, 3, 0] dX4_readTest_44 rfl rfl (by decide) rfl ?_
        refine tr_goto (tgt := 9) dX4_readTest_47 (by decide) ?_
        exact (fun s y0 y1 y2 y3 g0 => ih s y0 y1 y2 y3 g0) s6 l0 l1 (l2 ||| v5) (l4 + 1) h0
set_option maxRecDepth 100000 in
theorem sp_X4_readTest (G : MG) (hG : (g_l G).stackTraces = false) (d : Nat) (hd : 6 ≤ d) (r_X4_readFactor : MsSt → Nat → Int32 → Option (Int64 × MsSt)) (dr : Nat) (hdr : dr + 2 ≤ d) (hr_X4_readFactor : ∀ (s : MsSt) (x0 : Nat) (x1 : Int32), ms_kd x0 = 5 → MsSpec G mX4_readFactor dr 0 0 [.ref x0, .int x1] s ms_wj (r_X4_readFactor s x0 x1)) (σ : MsSt) (l0 : Nat) (l1 : Int32) (h0 : ms_kd l0 = 5) : MsSpec G mX4_readTest d 0 0 [.ref l0, .int l1] σ ms_wj (f_X4_readTest r_X4_readFactor σ l0 l1) := by
  refine ms_start (by decide +kernel) rfl rfl (Nat.le_of_ble_eq_true rfl) ?_
  show TrO G mX4_readTest d 0 0 0 0 ms_wj 0 [(0, .ref l0), (1, .int l1)] [] σ (ms_b2 (f_X4_readConjunction r_X4_readFactor σ l0 l1) fun v1 s2 => f_X4_readTest_9 r_X4_readFactor ms_fuel s2 l0 l1 v1 0)
  refine tr_aload_n (i := 0) dX4_readTest_0 rfl ?_
  refine tr_iload_n (i := 1) dX4_readTest_1 rfl ?_
  refine tr_d_wj (ms_cV (rest := []) (al := [.int l1]) 4 (sp_X4_readConjunction G hG (d - 1) (by omega) r_X4_readFactor dr (by omega) hr_X4_readFactor σ l0 l1 h0) h0 (by decide +kernel) kl_X4_102 fv_X4_readConjunction dX4_readTest_2 (show _ = some 1 by decide +kernel) (by omega) (Nat.le_of_ble_eq_true rfl) (by decide) (by decide)) (fun v1 s2 => ?_)
  refine tr_lstore_n (lv' := [(0, .ref l0), (1, .int l1), (2, .long v1)]) [1, 2, 0] dX4_readTest_5 (by decide) rfl ?_
  refine tr_iconst (v := 0) dX4_readTest_6 (by decide +kernel) ?_
  refine tr_istore (lv' := [(0, .ref l0), (1, .int l1), (2, .long v1), (4, .int 0)]) [1, 2, 3, 0] dX4_readTest_7 (by decide) rfl ?_
  exact t_X4_readTest_9 G hG d hd r_X4_readFactor dr hdr hr_X4_readFactor ms_fuel s2 l0 l1 v1 0 h0
theorem dX4_propertyAhead_0 : decode cX4_propertyAhead 0 = .ok (.aload_n 0, 1) := by decide +kernel
theorem dX4_propertyAhead_1 : decode cX4_propertyAhead 1 = .ok (.getfield 9, 3) := by decide +kernel
theorem dX4_propertyAhead_4 : decode cX4_propertyAhead 4 = .ok (.ldc 157, 2) := by decide +kernel
theorem dX4_propertyAhead_6 : decode cX4_propertyAhead 6 = .ok (.invokevirtual 47, 3) := by decide +kernel
theorem dX4_propertyAhead_9 : decode cX4_propertyAhead 9 = .ok (.ifCond .eq 7, 3) := by decide +kernel
theorem dX4_propertyAhead_12 : decode cX4_propertyAhead 12 = .ok (.iconst 0, 1) := by decide +kernel
theorem dX4_propertyAhead_13 : decode cX4_propertyAhead 13 = .ok (.goto 84, 3) := by decide +kernel
theorem dX4_propertyAhead_16 : decode cX4_propertyAhead 16 = .ok (.aload_n 0, 1) := by decide +kernel
theorem dX4_propertyAhead_17 : decode cX4_propertyAhead 17 = .ok (.getfield 9, 3) := by decide +kernel
theorem dX4_propertyAhead_20 : decode cX4_propertyAhead 20 = .ok (.ldc 159, 2) := by decide +kernel
theorem dX4_propertyAhead_22 : decode cX4_propertyAhead 22 = .ok (.invokevirtual 47, 3) := by decide +kernel
theorem dX4_propertyAhead_25 : decode cX4_propertyAhead 25 = .ok (.ifCond .eq 7, 3) := by decide +kernel
theorem dX4_propertyAhead_28 : decode cX4_propertyAhead 28 = .ok (.iconst 1, 1) := by decide +kernel
theorem dX4_propertyAhead_29 : decode cX4_propertyAhead 29 = .ok (.goto 68, 3) := by decide +kernel
theorem dX4_propertyAhead_32 : decode cX4_propertyAhead 32 = .ok (.aload_n 0, 1) := by decide +kernel
theorem dX4_propertyAhead_33 : decode cX4_propertyAhead 33 = .ok (.getfield 9, 3) := by decide +kernel
theorem dX4_propertyAhead_36 : decode cX4_propertyAhead 36 = .ok (.ldc 161, 2) := by decide +kernel
theorem dX4_propertyAhead_38 : decode cX4_propertyAhead 38 = .ok (.invokevirtual 47, 3) := by decide +kernel
theorem dX4_propertyAhead_41 : decode cX4_propertyAhead 41 = .ok (.ifCond .eq 7, 3) := by decide +kernel
theorem dX4_propertyAhead_44 : decode cX4_propertyAhead 44 = .ok (.iconst 2, 1) := by decide +kernel
theorem dX4_propertyAhead_45 : decode cX4_propertyAhead 45 = .ok (.goto 52, 3) := by decide +kernel
theorem dX4_propertyAhead_48 : decode cX4_propertyAhead 48 = .ok (.aload_n 0, 1) := by decide +kernel
theorem dX4_propertyAhead_49 : decode cX4_propertyAhead 49 = .ok (.getfield 9, 3) := by decide +kernel
theorem dX4_propertyAhead_52 : decode cX4_propertyAhead 52 = .ok (.ldc 162, 2) := by decide +kernel
theorem dX4_propertyAhead_54 : decode cX4_propertyAhead 54 = .ok (.invokevirtual 47, 3) := by decide +kernel
theorem dX4_propertyAhead_57 : decode cX4_propertyAhead 57 = .ok (.ifCond .eq 7, 3) := by decide +kernel
theorem dX4_propertyAhead_60 : decode cX4_propertyAhead 60 = .ok (.iconst 3, 1) := by decide +kernel
theorem dX4_propertyAhead_61 : decode cX4_propertyAhead 61 = .ok (.goto 36, 3) := by decide +kernel
theorem dX4_propertyAhead_64 : decode cX4_propertyAhead 64 = .ok (.aload_n 0, 1) := by decide +kernel
theorem dX4_propertyAhead_65 : decode cX4_propertyAhead 65 = .ok (.getfield 9, 3) := by decide +kernel
theorem dX4_propertyAhead_68 : decode cX4_propertyAhead 68 = .ok (.ldc 164, 2) := by decide +kernel
theorem dX4_propertyAhead_70 : decode cX4_propertyAhead 70 = .ok (.invokevirtual 47, 3) := by decide +kernel
theorem dX4_propertyAhead_73 : decode cX4_propertyAhead 73 = .ok (.ifCond .eq 7, 3) := by decide +kernel
theorem dX4_propertyAhead_76 : decode cX4_propertyAhead 76 = .ok (.iconst 4, 1) := by decide +kernel
theorem dX4_propertyAhead_77 : decode cX4_propertyAhead 77 = .ok (.goto 20, 3) := by decide +kernel
theorem dX4_propertyAhead_80 : decode cX4_propertyAhead 80 = .ok (.aload_n 0, 1) := by decide +kernel
theorem dX4_propertyAhead_81 : decode cX4_propertyAhead 81 = .ok (.getfield 9, 3) := by decide +kernel
theorem dX4_propertyAhead_84 : decode cX4_propertyAhead 84 = .ok (.ldc 166, 2) := by decide +kernel
theorem dX4_propertyAhead_86 : decode cX4_propertyAhead 86 = .ok (.invokevirtual 47, 3) := by decide +kernel
theorem dX4_propertyAhead_89 : decode cX4_propertyAhead 89 = .ok (.ifCond .eq 7, 3) := by decide +kernel
theorem dX4_propertyAhead_92 : decode cX4_propertyAhead 92 = .ok (.iconst 5, 1) := by decide +kernel
theorem dX4_propertyAhead_93 : decode cX4_propertyAhead 93 = .ok (.goto 4, 3) := by decide +kernel
theorem dX4_propertyAhead_96 : decode cX4_propertyAhead 96 = .ok (.iconst (-1), 1) := by decide +kernel
theorem dX4_propertyAhead_97 : decode cX4_propertyAhead 97 = .ok (.ireturn, 1) := by decide +kernel
set_option maxRecDepth 100000 in
theorem sp_X4_propertyAhead (G : MG) (hG : (g_l G).stackTraces = false) (d : Nat) (hd : 5 ≤ d)   (σ : MsSt) (l0 : Nat) (h0 : ms_kd l0 = 5) : MsSpec G mX4_propertyAhead d 0 0 [.ref l0] σ (ms_ki σ) (f_X4_propertyAhead σ l0) := by
  refine ms_start (by decide +kernel) rfl rfl (Nat.le_of_ble_eq_true rfl) ?_
  show TrO G mX4_propertyAhead d 0 0 0 0 (ms_ki σ) 0 [(0, .ref l0)] [] σ ((f_X9_isWord σ (ms_rf l0 0) 622).bind fun v1 => if v1 = 0 then (f_X9_isWord σ (ms_rf l0 0) 623).bind fun v2 => if v2 = 0 then (f_X9_isWord σ (ms_rf l0 0) 624).bind fun v3 => if v3 = 0 then (f_X9_isWord σ (ms_rf l0 0) 625).bind fun v4 => if v4 = 0 then (f_X9_isWord σ (ms_rf l0 0) 626).bind fun v5 => if v5 = 0 then (f_X9_isWord σ (ms_rf l0 0) 627).bind fun v6 => if v6 = 0 then some (-1) else some 5 else some 4 else some 3 else some 2 else some 1 else some 0)
  refine tr_aload_n (i := 0) dX4_propertyAhead_0 rfl ?_
  refine tr_getR 4 h0 fl_X4_9 (by decide +kernel) dX4_propertyAhead_1 ?_
  refine tr_ldcs 22 (tx := "place") (by decide) (by decide +kernel) dX4_propertyAhead_4 ?_
  refine tr_c_i (ms_cV (rest := []) (al := [.ref 622]) 9 (sp_X9_isWord G hG (d - 1) (by omega) σ (ms_rf l0 0) 622 (rk_4_0 h0) (⟨by decide, by decide⟩)) (rk_4_0 h0) (by decide +kernel) kl_X4_47 fv_X9_isWord dX4_propertyAhead_6 (show _ = some 1 by decide +kernel) (by omega) (Nat.le_of_ble_eq_true rfl) (by decide) (by decide)) (fun v1 => ?_)
  refine tr_ifeq (o := none) (tgt := 16) dX4_propertyAhead_9 (by decide) ?_ ?_
  · refine tr_aload_n (i := 0) dX4_propertyAhead_16 rfl ?_
    refine tr_getR 4 h0 fl_X4_9 (by decide +kernel) dX4_propertyAhead_17 ?_
    refine tr_ldcs 23 (tx := "sign") (by decide) (by decide +kernel) dX4_propertyAhead_20 ?_
    refine tr_c_i (ms_cV (rest := []) (al := [.ref 623]) 9 (sp_X9_isWord G hG (d - 1) (by omega) σ (ms_rf l0 0) 623 (rk_4_0 h0) (⟨by decide, by decide⟩)) (rk_4_0 h0) (by decide +kernel) kl_X4_47 fv_X9_isWord dX4_propertyAhead_22 (show _ = some 1 by decide +kernel) (by omega) (Nat.le_of_ble_eq_true rfl) (by decide) (by decide)) (fun v2 => ?_)
    refine tr_ifeq (o := none) (tgt := 32) dX4_propertyAhead_25 (by decide) ?_ ?_
    · refine tr_aload_n (i := 0) dX4_propertyAhead_32 rfl ?_
      refine tr_getR 4 h0 fl_X4_9 (by decide +kernel) dX4_propertyAhead_33 ?_
      refine tr_ldcs 24 (tx := "kind") (by decide) (by decide +kernel) dX4_propertyAhead_36 ?_
      refine tr_c_i (ms_cV (rest := []) (al := [.ref 624]) 9 (sp_X9_isWord G hG (d - 1) (by omega) σ (ms_rf l0 0) 624 (rk_4_0 h0) (⟨by decide, by decide⟩)) (rk_4_0 h0) (by decide +kernel) kl_X4_47 fv_X9_isWord dX4_propertyAhead_38 (show _ = some 1 by decide +kernel) (by omega) (Nat.le_of_ble_eq_true rfl) (by decide) (by decide)) (fun v3 => ?_)
      refine tr_ifeq (o := none) (tgt := 48) dX4_propertyAhead_41 (by decide) ?_ ?_
      · refine tr_aload_n (i := 0) dX4_propertyAhead_48 rfl ?_
        refine tr_getR 4 h0 fl_X4_9 (by decide +kernel) dX4_propertyAhead_49 ?_
        refine tr_ldcs 25 (tx := "class") (by decide) (by decide +kernel) dX4_propertyAhead_52 ?_
        refine tr_c_i (ms_cV (rest := []) (al := [.ref 625]) 9 (sp_X9_isWord G hG (d - 1) (by omega) σ (ms_rf l0 0) 625 (rk_4_0 h0) (⟨by decide, by decide⟩)) (rk_4_0 h0) (by decide +kernel) kl_X4_47 fv_X9_isWord dX4_propertyAhead_54 (show _ = some 1 by decide +kernel) (by omega) (Nat.le_of_ble_eq_true rfl) (by decide) (by decide)) (fun v4 => ?_)
        refine tr_ifeq (o := none) (tgt := 64) dX4_propertyAhead_57 (by decide) ?_ ?_
        · refine tr_aload_n (i := 0) dX4_propertyAhead_64 rfl ?_
          refine tr_getR 4 h0 fl_X4_9 (by decide +kernel) dX4_propertyAhead_65 ?_
          refine tr_ldcs 26 (tx := "parts") (by decide) (by decide +kernel) dX4_propertyAhead_68 ?_
          refine tr_c_i (ms_cV (rest := []) (al := [.ref 626]) 9 (sp_X9_isWord G hG (d - 1) (by omega) σ (ms_rf l0 0) 626 (rk_4_0 h0) (⟨by decide, by decide⟩)) (rk_4_0 h0) (by decide +kernel) kl_X4_47 fv_X9_isWord dX4_propertyAhead_70 (show _ = some 1 by decide +kernel) (by omega) (Nat.le_of_ble_eq_true rfl) (by decide) (by decide)) (fun v5 => ?_)
          refine tr_ifeq (o := none) (tgt := 80) dX4_propertyAhead_73 (by decide) ?_ ?_
          · refine tr_aload_n (i := 0) dX4_propertyAhead_80 rfl ?_
            refine tr_getR 4 h0 fl_X4_9 (by decide +kernel) dX4_propertyAhead_81 ?_
            refine tr_ldcs 27 (tx := "cluster") (by decide) (by decide +kernel) dX4_propertyAhead_84 ?_
            refine tr_c_i (ms_cV (rest := []) (al := [.ref 627]) 9 (sp_X9_isWord G hG (d - 1) (by omega) σ (ms_rf l0 0) 627 (rk_4_0 h0) (⟨by decide, by decide⟩)) (rk_4_0 h0) (by decide +kernel) kl_X4_47 fv_X9_isWord dX4_propertyAhead_86 (show _ = some 1 by decide +kernel) (by omega) (Nat.le_of_ble_eq_true rfl) (by decide) (by decide)) (fun v6 => ?_)
            refine tr_ifeq (o := none) (tgt := 96) dX4_propertyAhead_89 (by decide) ?_ ?_
            · refine tr_iconst (v := (-1)) dX4_propertyAhead_96 (by decide +kernel) ?_
              exact tr_iret rfl rfl (by decide) (by decide) dX4_propertyAhead_97
            · refine tr_iconst (v := 5) dX4_propertyAhead_92 (by decide +kernel) ?_
              refine tr_goto (tgt := 97) dX4_propertyAhead_93 (by decide) ?_
              exact tr_iret rfl rfl (by decide) (by decide) dX4_propertyAhead_97
          · refine tr_iconst (v := 4) dX4_propertyAhead_76 (by decide +kernel) ?_
            refine tr_goto (tgt := 97) dX4_propertyAhead_77 (by decide) ?_
            exact tr_iret rfl rfl (by decide) (by decide) dX4_propertyAhead_97
        · refine tr_iconst (v := 3) dX4_propertyAhead_60 (by decide +kernel) ?_
          refine tr_goto (tgt := 97) dX4_propertyAhead_61 (by decide) ?_
          exact tr_iret rfl rfl (by decide) (by decide) dX4_propertyAhead_97
      · refine tr_iconst (v := 2) dX4_propertyAhead_44 (by decide +kernel) ?_
        refine tr_goto (tgt := 97) dX4_propertyAhead_45 (by decide) ?_
        exact tr_iret rfl rfl (by decide) (by decide) dX4_propertyAhead_97
    · refine tr_iconst (v := 1) dX4_propertyAhead_28 (by decide +kernel) ?_
      refine tr_goto (tgt := 97) dX4_propertyAhead_29 (by decide) ?_
      exact tr_iret rfl rfl (by decide) (by decide) dX4_propertyAhead_97
  · refine tr_iconst (v := 0) dX4_propertyAhead_12 (by decide +kernel) ?_
    refine tr_goto (tgt := 97) dX4_propertyAhead_13 (by decide) ?_
    exact tr_iret rfl rfl (by decide) (by decide) dX4_propertyAhead_97
theorem dX4_valueAt_0 : decode cX4_valueAt 0 = .ok (.aload_n 0, 1) := by decide +kernel
theorem dX4_valueAt_1 : decode cX4_valueAt 1 = .ok (.getfield 24, 3) := by decide +kernel
theorem dX4_valueAt_4 : decode cX4_valueAt 4 = .ok (.iload_n 1, 1) := by decide +kernel
theorem dX4_valueAt_5 : decode cX4_valueAt 5 = .ok (.invokevirtual 134, 3) := by decide +kernel
theorem dX4_valueAt_8 : decode cX4_valueAt 8 = .ok (.istore_n 3, 1) := by decide +kernel
theorem dX4_valueAt_9 : decode cX4_valueAt 9 = .ok (.aload_n 0, 1) := by decide +kernel
theorem dX4_valueAt_10 : decode cX4_valueAt 10 = .ok (.getfield 15, 3) := by decide +kernel
theorem dX4_valueAt_13 : decode cX4_valueAt 13 = .ok (.iload_n 3, 1) := by decide +kernel
theorem dX4_valueAt_14 : decode cX4_valueAt 14 = .ok (.invokevirtual 168, 3) := by decide +kernel
theorem dX4_valueAt_17 : decode cX4_valueAt 17 = .ok (.astore 4, 2) := by decide +kernel
theorem dX4_valueAt_19 : decode cX4_valueAt 19 = .ok (.iload_n 2, 1) := by decide +kernel
theorem dX4_valueAt_20 : decode cX4_valueAt 20 = .ok (.tableswitch 58 0 4 #[36, 38, 40, 46, 52], 36) := by decide +kernel
theorem dX4_valueAt_56 : decode cX4_valueAt 56 = .ok (.iload_n 1, 1) := by decide +kernel
theorem dX4_valueAt_57 : decode cX4_valueAt 57 = .ok (.ireturn, 1) := by decide +kernel
theorem dX4_valueAt_58 : decode cX4_valueAt 58 = .ok (.iload_n 3, 1) := by decide +kernel
theorem dX4_valueAt_59 : decode cX4_valueAt 59 = .ok (.ireturn, 1) := by decide +kernel
theorem dX4_valueAt_60 : decode cX4_valueAt 60 = .ok (.aload 4, 2) := by decide +kernel
theorem dX4_valueAt_62 : decode cX4_valueAt 62 = .ok (.getfield 172, 3) := by decide +kernel
theorem dX4_valueAt_65 : decode cX4_valueAt 65 = .ok (.ireturn, 1) := by decide +kernel
theorem dX4_valueAt_66 : decode cX4_valueAt 66 = .ok (.aload 4, 2) := by decide +kernel
theorem dX4_valueAt_68 : decode cX4_valueAt 68 = .ok (.getfield 175, 3) := by decide +kernel
theorem dX4_valueAt_71 : decode cX4_valueAt 71 = .ok (.ireturn, 1) := by decide +kernel
theorem dX4_valueAt_72 : decode cX4_valueAt 72 = .ok (.aload 4, 2) := by decide +kernel
theorem dX4_valueAt_74 : decode cX4_valueAt 74 = .ok (.getfield 178, 3) := by decide +kernel
theorem dX4_valueAt_77 : decode cX4_valueAt 77 = .ok (.ireturn, 1) := by decide +kernel
theorem dX4_valueAt_78 : decode cX4_valueAt 78 = .ok (.aload_n 0, 1) := by decide +kernel
theorem dX4_valueAt_79 : decode cX4_valueAt 79 = .ok (.getfield 28, 3) := by decide +kernel
theorem dX4_valueAt_82 : decode cX4_valueAt 82 = .ok (.iload_n 1, 1) := by decide +kernel
theorem dX4_valueAt_83 : decode cX4_valueAt 83 = .ok (.invokevirtual 134, 3) := by decide +kernel
theorem dX4_valueAt_86 : decode cX4_valueAt 86 = .ok (.ireturn, 1) := by decide +kernel
set_option maxRecDepth 100000 in
theorem sp_X4_valueAt (G : MG) (hG : (g_l G).stackTraces = false) (d : Nat) (hd : 1 ≤ d)   (σ : MsSt) (l0 : Nat) (l1 : Int32) (l2 : Int32) (h0 : ms_kd l0 = 5) : MsSpec G mX4_valueAt d 0 0 [.ref l0, .int l1, .int l2] σ (ms_ki σ) (f_X4_valueAt σ l0 l1 l2) := by
  refine ms_start (by decide +kernel) rfl rfl (Nat.le_of_ble_eq_true rfl) ?_
  show TrO G mX4_valueAt d 0 0 0 0 (ms_ki σ) 0 [(0, .ref l0), (1, .int l1), (2, .int l2)] [] σ ((f_X5_get σ (ms_rf l0 2) l1).bind fun v1 => (f_X6_told σ (ms_rf l0 1) v1).bind fun v2 => if l2 = 0 then some l1 else if l2 = 1 then some v1 else if l2 = 2 then some (ms_i σ v2 1) else if l2 = 3 then some (ms_i σ v2 4) else if l2 = 4 then some (ms_i σ v2 3) else (f_X5_get σ (ms_rf l0 3) l1).bind fun v3 => some v3)
  refine tr_aload_n (i := 0) dX4_valueAt_0 rfl ?_
  refine tr_getR 4 h0 fl_X4_24 (by decide +kernel) dX4_valueAt_1 ?_
  refine tr_iload_n (i := 1) dX4_valueAt_4 rfl ?_
  refine tr_c_i (ms_cV (rest := []) (al := [.int l1]) 5 (sp_X5_get G hG (d - 1) (by omega) σ (ms_rf l0 2) l1 (rk_4_2 h0)) (rk_4_2 h0) (by decide +kernel) kl_X4_134 fv_X5_get dX4_valueAt_5 (show _ = some 1 by decide +kernel) (by omega) (Nat.le_of_ble_eq_true rfl) (by decide) (by decide)) (fun v1 => ?_)
  refine tr_istore_n (lv' := [(0, .ref l0), (1, .int l1), (2, .int l2), (3, .int v1)]) [1, 2, 3, 0] dX4_valueAt_8 (by decide) rfl ?_
  refine tr_aload_n (i := 0) dX4_valueAt_9 rfl ?_
  refine tr_getR 4 h0 fl_X4_15 (by decide +kernel) dX4_valueAt_10 ?_
  refine tr_iload_n (i := 3) dX4_valueAt_13 rfl ?_
  refine tr_c_a (ms_cV (rest := []) (al := [.int v1]) 6 (sp_X6_told G hG (d - 1) (by omega) σ (ms_rf l0 1) v1 (rk_4_1 h0)) (rk_4_1 h0) (by decide +kernel) kl_X4_168 fv_X6_told dX4_valueAt_14 (show _ = some 1 by decide +kernel) (by omega) (Nat.le_of_ble_eq_true rfl) (by decide) (by decide)) (fun v2 e_v2 => ?_)
  refine tr_astore (lv' := [(0, .ref l0), (1, .int l1), (2, .int l2), (3, .int v1), (4, .ref v2)]) [1, 2, 3, 4, 0] dX4_valueAt_17 (by decide) rfl ?_
  refine tr_iload_n (i := 2) dX4_valueAt_19 rfl ?_
  refine tr_tsIn (tgt := 56) (off := 36) 0 dX4_valueAt_20 (by decide +kernel) (by decide +kernel) (by decide +kernel) (by decide) ?_ (fun n0 => ?_)
  · refine tr_iload_n (i := 1) dX4_valueAt_56 rfl ?_
    exact tr_iret rfl rfl (by decide) (by decide) dX4_valueAt_57
  refine tr_tsIn (tgt := 58) (off := 38) 1 dX4_valueAt_20 (by decide +kernel) (by decide +kernel) (by decide +kernel) (by decide) ?_ (fun n1 => ?_)
  · refine tr_iload_n (i := 3) dX4_valueAt_58 rfl ?_
    exact tr_iret rfl rfl (by decide) (by decide) dX4_valueAt_59
  refine tr_tsIn (tgt := 60) (off := 40) 2 dX4_valueAt_20 (by decide +kernel) (by decide +kernel) (by decide +kernel) (by decide) ?_ (fun n2 => ?_)
  · refine tr_aload (i := 4) dX4_valueAt_60 rfl ?_
    refine tr_getI 7 (ra_X6_told (rk_4_1 h0) e_v2) fl_X4_172 (by decide +kernel) dX4_valueAt_62 ?_
    exact tr_iret rfl rfl (by decide) (by decide) dX4_valueAt_65
  refine tr_tsIn (tgt := 66) (off := 46) 3 dX4_valueAt_20 (by decide +kernel) (by decide +kernel) (by decide +kernel) (by decide) ?_ (fun n3 => ?_)
  · refine tr_aload (i := 4) dX4_valueAt_66 rfl ?_
    refine tr_getI 7 (ra_X6_told (rk_4_1 h0) e_v2) fl_X4_175 (by decide +kernel) dX4_valueAt_68 ?_
    exact tr_iret rfl rfl (by decide) (by decide) dX4_valueAt_71
  refine tr_tsIn (tgt := 72) (off := 52) 4 dX4_valueAt_20 (by decide +kernel) (by decide +kernel) (by decide +kernel) (by decide) ?_ (fun n4 => ?_)
  · refine tr_aload (i := 4) dX4_valueAt_72 rfl ?_
    refine tr_getI 7 (ra_X6_told (rk_4_1 h0) e_v2) fl_X4_178 (by decide +kernel) dX4_valueAt_74 ?_
    exact tr_iret rfl rfl (by decide) (by decide) dX4_valueAt_77
  refine tr_tsOut (tgt := 78) dX4_valueAt_20 ?_ (by decide) ?_
  · have q0 := lv_neT (a := 0) n0 (by decide +kernel); have q1 := lv_neT (a := 1) n1 (by decide +kernel); have q2 := lv_neT (a := 2) n2 (by decide +kernel); have q3 := lv_neT (a := 3) n3 (by decide +kernel); have q4 := lv_neT (a := 4) n4 (by decide +kernel); omega
  refine tr_aload_n (i := 0) dX4_valueAt_78 rfl ?_
  refine tr_getR 4 h0 fl_X4_28 (by decide +kernel) dX4_valueAt_79 ?_
  refine tr_iload_n (i := 1) dX4_valueAt_82 rfl ?_
  refine tr_c_i (ms_cV (rest := []) (al := [.int l1]) 5 (sp_X5_get G hG (d - 1) (by omega) σ (ms_rf l0 3) l1 (rk_4_3 h0)) (rk_4_3 h0) (by decide +kernel) kl_X4_134 fv_X5_get dX4_valueAt_83 (show _ = some 1 by decide +kernel) (by omega) (Nat.le_of_ble_eq_true rfl) (by decide) (by decide)) (fun v3 => ?_)
  exact tr_iret rfl rfl (by decide) (by decide) dX4_valueAt_86
theorem dX4_readValue_0 : decode cX4_readValue 0 = .ok (.aload_n 1, 1) := by decide +kernel
theorem dX4_readValue_1 : decode cX4_readValue 1 = .ok (.invokevirtual 89, 3) := by decide +kernel
theorem dX4_readValue_4 : decode cX4_readValue 4 = .ok (.aload_n 0, 1) := by decide +kernel
theorem dX4_readValue_5 : decode cX4_readValue 5 = .ok (.getfield 9, 3) := by decide +kernel
theorem dX4_readValue_8 : decode cX4_readValue 8 = .ok (.getfield 144, 3) := by decide +kernel
theorem dX4_readValue_11 : decode cX4_readValue 11 = .ok (.iconst 2, 1) := by decide +kernel
theorem dX4_readValue_12 : decode cX4_readValue 12 = .ok (.if_icmp .ne 40, 3) := by decide +kernel
theorem dX4_readValue_15 : decode cX4_readValue 15 = .ok (.aload_n 0, 1) := by decide +kernel
theorem dX4_readValue_16 : decode cX4_readValue 16 = .ok (.getfield 9, 3) := by decide +kernel
theorem dX4_readValue_19 : decode cX4_readValue 19 = .ok (.iconst 0, 1) := by decide +kernel
theorem dX4_readValue_20 : decode cX4_readValue 20 = .ok (.sipush 9999, 3) := by decide +kernel
theorem dX4_readValue_23 : decode cX4_readValue 23 = .ok (.invokevirtual 147, 3) := by decide +kernel
theorem dX4_readValue_26 : decode cX4_readValue 26 = .ok (.istore_n 2, 1) := by decide +kernel
theorem dX4_readValue_27 : decode cX4_readValue 27 = .ok (.iconst 0, 1) := by decide +kernel
theorem dX4_readValue_28 : decode cX4_readValue 28 = .ok (.istore_n 3, 1) := by decide +kernel
theorem dX4_readValue_29 : decode cX4_readValue 29 = .ok (.iload_n 3, 1) := by decide +kernel
theorem dX4_readValue_30 : decode cX4_readValue 30 = .ok (.aload_n 0, 1) := by decide +kernel
theorem dX4_readValue_31 : decode cX4_readValue 31 = .ok (.getfield 24, 3) := by decide +kernel
theorem dX4_readValue_34 : decode cX4_readValue 34 = .ok (.getfield 92, 3) := by decide +kernel
theorem dX4_readValue_37 : decode cX4_readValue 37 = .ok (.if_icmp .ge 14, 3) := by decide +kernel
theorem dX4_readValue_40 : decode cX4_readValue 40 = .ok (.aload_n 1, 1) := by decide +kernel
theorem dX4_readValue_41 : decode cX4_readValue 41 = .ok (.iload_n 2, 1) := by decide +kernel
theorem dX4_readValue_42 : decode cX4_readValue 42 = .ok (.invokevirtual 99, 3) := by decide +kernel
theorem dX4_readValue_45 : decode cX4_readValue 45 = .ok (.iinc 3 1, 3) := by decide +kernel
theorem dX4_readValue_48 : decode cX4_readValue 48 = .ok (.goto (-19), 3) := by decide +kernel
theorem dX4_readValue_51 : decode cX4_readValue 51 = .ok (.return_, 1) := by decide +kernel
theorem dX4_readValue_52 : decode cX4_readValue 52 = .ok (.aload_n 0, 1) := by decide +kernel
theorem dX4_readValue_53 : decode cX4_readValue 53 = .ok (.invokevirtual 150, 3) := by decide +kernel
theorem dX4_readValue_56 : decode cX4_readValue 56 = .ok (.istore_n 2, 1) := by decide +kernel
theorem dX4_readValue_57 : decode cX4_readValue 57 = .ok (.iload_n 2, 1) := by decide +kernel
theorem dX4_readValue_58 : decode cX4_readValue 58 = .ok (.iconst (-1), 1) := by decide +kernel
theorem dX4_readValue_59 : decode cX4_readValue 59 = .ok (.if_icmp .ne 11, 3) := by decide +kernel
theorem dX4_readValue_62 : decode cX4_readValue 62 = .ok (.aload_n 0, 1) := by decide +kernel
theorem dX4_readValue_63 : decode cX4_readValue 63 = .ok (.getfield 9, 3) := by decide +kernel
theorem dX4_readValue_66 : decode cX4_readValue 66 = .ok (.iconst 1, 1) := by decide +kernel
theorem dX4_readValue_67 : decode cX4_readValue 67 = .ok (.invokevirtual 53, 3) := by decide +kernel
theorem dX4_readValue_70 : decode cX4_readValue 70 = .ok (.iconst 0, 1) := by decide +kernel
theorem dX4_readValue_71 : decode cX4_readValue 71 = .ok (.istore_n 3, 1) := by decide +kernel
theorem dX4_readValue_72 : decode cX4_readValue 72 = .ok (.iload_n 3, 1) := by decide +kernel
theorem dX4_readValue_73 : decode cX4_readValue 73 = .ok (.aload_n 0, 1) := by decide +kernel
theorem dX4_readValue_74 : decode cX4_readValue 74 = .ok (.getfield 24, 3) := by decide +kernel
theorem dX4_readValue_77 : decode cX4_readValue 77 = .ok (.getfield 92, 3) := by decide +kernel
theorem dX4_readValue_80 : decode cX4_readValue 80 = .ok (.if_icmp .ge 19, 3) := by decide +kernel
theorem dX4_readValue_83 : decode cX4_readValue 83 = .ok (.aload_n 1, 1) := by decide +kernel
theorem dX4_readValue_84 : decode cX4_readValue 84 = .ok (.aload_n 0, 1) := by decide +kernel
theorem dX4_readValue_85 : decode cX4_readValue 85 = .ok (.iload_n 3, 1) := by decide +kernel
theorem dX4_readValue_86 : decode cX4_readValue 86 = .ok (.iload_n 2, 1) := by decide +kernel
theorem dX4_readValue_87 : decode cX4_readValue 87 = .ok (.invokevirtual 154, 3) := by decide +kernel
theorem dX4_readValue_90 : decode cX4_readValue 90 = .ok (.invokevirtual 99, 3) := by decide +kernel
theorem dX4_readValue_93 : decode cX4_readValue 93 = .ok (.iinc 3 1, 3) := by decide +kernel
theorem dX4_readValue_96 : decode cX4_readValue 96 = .ok (.goto (-24), 3) := by decide +kernel
theorem dX4_readValue_99 : decode cX4_readValue 99 = .ok (.aload_n 0, 1) := by decide +kernel
theorem dX4_readValue_100 : decode cX4_readValue 100 = .ok (.getfield 9, 3) := by decide +kernel
theorem dX4_readValue_103 : decode cX4_readValue 103 = .ok (.invokevirtual 56, 3) := by decide +kernel
theorem dX4_readValue_106 : decode cX4_readValue 106 = .ok (.return_, 1) := by decide +kernel
set_option maxRecDepth 100000 in
theorem t_X4_readValue_72 (G : MG) (hG : (g_l G).stackTraces = false) (d : Nat) (hd : 6 ≤ d)    : ∀ (n : Nat) (σ : MsSt) (l0 : Nat) (l1 : Nat) (l2 : Int32) (l3 : Int32) (h0 : ms_kd l0 = 5) (h1 : ms_kd l1 = 6), TrO G mX4_readValue d 0 0 0 0 ms_wv 72 [(0, .ref l0), (1, .ref l1), (2, .int l2), (3, .int l3)] [] σ (f_X4_readValue_72 n σ l0 l1 l2 l3) := by
  intro n
  induction n with
  | zero => exact fun _ _ _ _ _ _ _ => tr_none
  | succ n ih =>
    intro σ l0 l1 l2 l3 h0 h1
    show TrO G mX4_readValue d 0 0 0 0 ms_wv 72 [(0, .ref l0), (1, .ref l1), (2, .int l2), (3, .int l3)] [] σ (if l3 < (ms_i σ (ms_rf l0 2) 1) then (f_X4_valueAt σ l0 l3 l2).bind fun v4 => (f_X5_add σ l1 v4).bind fun s5 => (f_X4_readValue_72 n) s5 l0 l1 l2 (l3 + 1) else (f_X9_advance σ (ms_rf l0 0)).bind fun s3 => some s3)
    refine tr_iload_n (i := 3) dX4_readValue_72 rfl ?_
    refine tr_aload_n (i := 0) dX4_readValue_73 rfl ?_
    refine tr_getR 4 h0 fl_X4_24 (by decide +kernel) dX4_readValue_74 ?_
    refine tr_getI 5 (rk_4_2 h0) fl_X4_92 (by decide +kernel) dX4_readValue_77 ?_
    refine tr_icge (o := none) (tgt := 99) dX4_readValue_80 (by decide) ?_ ?_
    · refine tr_aload_n (i := 0) dX4_readValue_99 rfl ?_
      refine tr_getR 4 h0 fl_X4_9 (by decide +kernel) dX4_readValue_100 ?_
      refine tr_c_wv (ms_cV (rest := []) (al := []) 9 (sp_X9_advance G hG (d - 1) (by omega) σ (ms_rf l0 0) (rk_4_0 h0)) (rk_4_0 h0) (by decide +kernel) kl_X4_56 fv_X9_advance dX4_readValue_103 (show _ = some 0 by decide +kernel) (by omega) (Nat.le_of_ble_eq_true rfl) (by decide) (by decide)) (fun s3 => ?_)
      exact tr_vret rfl rfl (by decide) (by decide) dX4_readValue_106
    · refine tr_aload_n (i := 1) dX4_readValue_83 rfl ?_
      refine tr_aload_n (i := 0) dX4_readValue_84 rfl ?_
      refine tr_iload_n (i := 3) dX4_readValue_85 rfl ?_
      refine tr_iload_n (i := 2) dX4_readValue_86 rfl ?_
      refine tr_c_i (ms_cV (rest := [.ref l1]) (al := [.int l3, .int l2]) 4 (sp_X4_valueAt G hG (d - 1) (by omega) σ l0 l3 l2 h0) h0 (by decide +kernel) kl_X4_154 fv_X4_valueAt dX4_readValue_87 (show _ = some 2 by decide +kernel) (by omega) (Nat.le_of_ble_eq_true rfl) (by decide) (by decide)) (fun v4 => ?_)
      refine tr_c_wv (ms_cV (rest := []) (al := [.int v4]) 5 (sp_X5_add G hG (d - 1) (by omega) σ l1 v4 h1) h1 (by decide +kernel) kl_X4_99 fv_X5_add dX4_readValue_90 (show _ = some 1 by decide +kernel) (by omega) (Nat.le_of_ble_eq_true rfl) (by decide) (by decide)) (fun s5 => ?_)
      refine tr_iinc (k := 3) (v := (l3 + 1)) (lv' := [(0, .ref l0), (1, .ref l1), (2, .int l2), (3, .int (l3 + 1))]) [1, 2, 3, 0] dX4_readValue_93 rfl rfl (by decide) rfl ?_
      refine tr_goto (tgt := 72) dX4_readValue_96 (by decide) ?_
      exact (fun s y0 y1 y2 y3 g0 g1 => ih s y0 y1 y2 y3 g0 g1) s5 l0 l1 l2 (l3 + 1) h0 h1
set_option maxRecDepth 100000 in
theorem t_X4_readValue_29 (G : MG) (hG : (g_l G).stackTraces = false) (d : Nat) (hd : 6 ≤ d)    : ∀ (n : Nat) (σ : MsSt) (l0 : Nat) (l1 : Nat) (l2 : Int32) (l3 : Int32) (h0 : ms_kd l0 = 5) (h1 : ms_kd l1 = 6), TrO G mX4_readValue d 0 0 0 0 ms_wv 29 [(0, .ref l0), (1, .ref l1), (2, .int l2), (3, .int l3)] [] σ (f_X4_readValue_29 n σ l0 l1 l2 l3) := by
  intro n
  induction n with
  | zero => exact fun _ _ _ _ _ _ _ => tr_none
  | succ n ih =>
    intro σ l0 l1 l2 l3 h0 h1
    show TrO G mX4_readValue d 0 0 0 0 ms_wv 29 [(0, .ref l0), (1, .ref l1), (2, .int l2), (3, .int l3)] [] σ (if l3 < (ms_i σ (ms_rf l0 2) 1) then (f_X5_add σ l1 l2).bind fun s9 => (f_X4_readValue_29 n) s9 l0 l1 l2 (l3 + 1) else some σ)
    refine tr_iload_n (i := 3) dX4_readValue_29 rfl ?_
    refine tr_aload_n (i := 0) dX4_readValue_30 rfl ?_
    refine tr_getR 4 h0 fl_X4_24 (by decide +kernel) dX4_readValue_31 ?_
    refine tr_getI 5 (rk_4_2 h0) fl_X4_92 (by decide +kernel) dX4_readValue_34 ?_
    refine tr_icge (o := none) (tgt := 51) dX4_readValue_37 (by decide) ?_ ?_
    · exact tr_vret rfl rfl (by decide) (by decide) dX4_readValue_51
    · refine tr_aload_n (i := 1) dX4_readValue_40 rfl ?_
      refine tr_iload_n (i := 2) dX4_readValue_41 rfl ?_
      refine tr_c_wv (ms_cV (rest := []) (al := [.int l2]) 5 (sp_X5_add G hG (d - 1) (by omega) σ l1 l2 h1) h1 (by decide +kernel) kl_X4_99 fv_X5_add dX4_readValue_42 (show _ = some 1 by decide +kernel) (by omega) (Nat.le_of_ble_eq_true rfl) (by decide) (by decide)) (fun s9 => ?_)
      refine tr_iinc (k := 3) (v := (l3 + 1)) (lv' := [(0, .ref l0), (1, .ref l1), (2, .int l2), (3, .int (l3 + 1))]) [1, 2, 3, 0] dX4_readValue_45 rfl rfl (by decide) rfl ?_
      refine tr_goto (tgt := 29) dX4_readValue_48 (by decide) ?_
      exact (fun s y0 y1 y2 y3 g0 g1 => ih s y0 y1 y2 y3 g0 g1) s9 l0 l1 l2 (l3 + 1) h0 h1
set_option maxRecDepth 100000 in
theorem sp_X4_readValue (G : MG) (hG : (g_l G).stackTraces = false) (d : Nat) (hd : 6 ≤ d)   (σ : MsSt) (l0 : Nat) (l1 : Nat) (h0 : ms_kd l0 = 5) (h1 : ms_kd l1 = 6) : MsSpec G mX4_readValue d 0 0 [.ref l0, .ref l1] σ ms_wv (f_X4_readValue σ l0 l1) := by
  refine ms_start (by decide +kernel) rfl rfl (Nat.le_of_ble_eq_true rfl) ?_
  show TrO G mX4_readValue d 0 0 0 0 ms_wv 0 [(0, .ref l0), (1, .ref l1)] [] σ ((f_X5_clear σ l1).bind fun s1 => if (ms_i s1 (ms_rf l0 0) 5) = 2 then ms_b2 (f_X9_takeNumber s1 (ms_rf l0 0) 0 9999) fun v7 s8 => f_X4_readValue_29 ms_fuel s8 l0 l1 v7 0 else (f_X4_propertyAhead s1 l0).bind fun v2 => if v2 = (-1) then (f_X9_fail s1 (ms_rf l0 0) 1).bind fun s6 => f_X4_readValue_72 ms_fuel s6 l0 l1 v2 0 else f_X4_readValue_72 ms_fuel s1 l0 l1 v2 0)
  refine tr_aload_n (i := 1) dX4_readValue_0 rfl ?_
  refine tr_c_wv (ms_cV (rest := []) (al := []) 5 (sp_X5_clear G hG (d - 1) (by omega) σ l1 h1) h1 (by decide +kernel) kl_X4_89 fv_X5_clear dX4_readValue_1 (show _ = some 0 by decide +kernel) (by omega) (Nat.le_of_ble_eq_true rfl) (by decide) (by decide)) (fun s1 => ?_)
  refine tr_aload_n (i := 0) dX4_readValue_4 rfl ?_
  refine tr_getR 4 h0 fl_X4_9 (by decide +kernel) dX4_readValue_5 ?_
  refine tr_getI 9 (rk_4_0 h0) fl_X4_144 (by decide +kernel) dX4_readValue_8 ?_
  refine tr_iconst (v := 2) dX4_readValue_11 (by decide +kernel) ?_
  refine tr_icne (o := none) (tgt := 52) dX4_readValue_12 (by decide) ?_ ?_
  · refine tr_aload_n (i := 0) dX4_readValue_52 rfl ?_
    refine tr_c_i (ms_cV (rest := []) (al := []) 4 (sp_X4_propertyAhead G hG (d - 1) (by omega) s1 l0 h0) h0 (by decide +kernel) kl_X4_150 fv_X4_propertyAhead dX4_readValue_53 (show _ = some 0 by decide +kernel) (by omega) (Nat.le_of_ble_eq_true rfl) (by decide) (by decide)) (fun v2 => ?_)
    refine tr_istore_n (lv' := [(0, .ref l0), (1, .ref l1), (2, .int v2)]) [1, 2, 0] dX4_readValue_56 (by decide) rfl ?_
    refine tr_iload_n (i := 2) dX4_readValue_57 rfl ?_
    refine tr_iconst (v := (-1)) dX4_readValue_58 (by decide +kernel) ?_
    refine tr_icne (o := none) (tgt := 70) dX4_readValue_59 (by decide) ?_ ?_
    · refine tr_iconst (v := 0) dX4_readValue_70 (by decide +kernel) ?_
      refine tr_istore_n (lv' := [(0, .ref l0), (1, .ref l1), (2, .int v2), (3, .int 0)]) [1, 2, 3, 0] dX4_readValue_71 (by decide) rfl ?_
      exact t_X4_readValue_72 G hG d hd ms_fuel s1 l0 l1 v2 0 h0 h1
    · refine tr_aload_n (i := 0) dX4_readValue_62 rfl ?_
      refine tr_getR 4 h0 fl_X4_9 (by decide +kernel) dX4_readValue_63 ?_
      refine tr_iconst (v := 1) dX4_readValue_66 (by decide +kernel) ?_
      refine tr_c_wv (ms_cV (rest := []) (al := [.int 1]) 9 (sp_X9_fail G hG (d - 1) (by omega) s1 (ms_rf l0 0) 1 (rk_4_0 h0)) (rk_4_0 h0) (by decide +kernel) kl_X4_53 fv_X9_fail dX4_readValue_67 (show _ = some 1 by decide +kernel) (by omega) (Nat.le_of_ble_eq_true rfl) (by decide) (by decide)) (fun s6 => ?_)
      refine tr_iconst (v := 0) dX4_readValue_70 (by decide +kernel) ?_
      refine tr_istore_n (lv' := [(0, .ref l0), (1, .ref l1), (2, .int v2), (3, .int 0)]) [1, 2, 3, 0] dX4_readValue_71 (by decide) rfl ?_
      exact t_X4_readValue_72 G hG d hd ms_fuel s6 l0 l1 v2 0 h0 h1
  · refine tr_aload_n (i := 0) dX4_readValue_15 rfl ?_
    refine tr_getR 4 h0 fl_X4_9 (by decide +kernel) dX4_readValue_16 ?_
    refine tr_iconst (v := 0) dX4_readValue_19 (by decide +kernel) ?_
    refine tr_sipush (v := 9999) dX4_readValue_20 (by decide +kernel) ?_
    refine tr_d_wi (ms_cV (rest := []) (al := [.int 0, .int 9999]) 9 (sp_X9_takeNumber G hG (d - 1) (by omega) s1 (ms_rf l0 0) 0 9999 (rk_4_0 h0)) (rk_4_0 h0) (by decide +kernel) kl_X4_147 fv_X9_takeNumber dX4_readValue_23 (show _ = some 2 by decide +kernel) (by omega) (Nat.le_of_ble_eq_true rfl) (by decide) (by decide)) (fun v7 s8 => ?_)
    refine tr_istore_n (lv' := [(0, .ref l0), (1, .ref l1), (2, .int v7)]) [1, 2, 0] dX4_readValue_26 (by decide) rfl ?_
    refine tr_iconst (v := 0) dX4_readValue_27 (by decide +kernel) ?_
    refine tr_istore_n (lv' := [(0, .ref l0), (1, .ref l1), (2, .int v7), (3, .int 0)]) [1, 2, 3, 0] dX4_readValue_28 (by decide) rfl ?_
    exact t_X4_readValue_29 G hG d hd ms_fuel s8 l0 l1 v7 0 h0 h1
theorem dX4_readComparison_0 : decode cX4_readComparison 0 = .ok (.aload_n 0, 1) := by decide +kernel
theorem dX4_readComparison_1 : decode cX4_readComparison 1 = .ok (.aload_n 0, 1) := by decide +kernel
theorem dX4_readComparison_2 : decode cX4_readComparison 2 = .ok (.getfield 31, 3) := by decide +kernel
theorem dX4_readComparison_5 : decode cX4_readComparison 5 = .ok (.invokevirtual 131, 3) := by decide +kernel
theorem dX4_readComparison_8 : decode cX4_readComparison 8 = .ok (.aload_n 0, 1) := by decide +kernel
theorem dX4_readComparison_9 : decode cX4_readComparison 9 = .ok (.getfield 9, 3) := by decide +kernel
theorem dX4_readComparison_12 : decode cX4_readComparison 12 = .ok (.bipush 60, 2) := by decide +kernel
theorem dX4_readComparison_14 : decode cX4_readComparison 14 = .ok (.invokevirtual 114, 3) := by decide +kernel
theorem dX4_readComparison_17 : decode cX4_readComparison 17 = .ok (.istore_n 1, 1) := by decide +kernel
theorem dX4_readComparison_18 : decode cX4_readComparison 18 = .ok (.aload_n 0, 1) := by decide +kernel
theorem dX4_readComparison_19 : decode cX4_readComparison 19 = .ok (.getfield 9, 3) := by decide +kernel
theorem dX4_readComparison_22 : decode cX4_readComparison 22 = .ok (.bipush 61, 2) := by decide +kernel
theorem dX4_readComparison_24 : decode cX4_readComparison 24 = .ok (.invokevirtual 114, 3) := by decide +kernel
theorem dX4_readComparison_27 : decode cX4_readComparison 27 = .ok (.istore_n 2, 1) := by decide +kernel
theorem dX4_readComparison_28 : decode cX4_readComparison 28 = .ok (.iload_n 1, 1) := by decide +kernel
theorem dX4_readComparison_29 : decode cX4_readComparison 29 = .ok (.ifCond .ne 27, 3) := by decide +kernel
theorem dX4_readComparison_32 : decode cX4_readComparison 32 = .ok (.iload_n 2, 1) := by decide +kernel
theorem dX4_readComparison_33 : decode cX4_readComparison 33 = .ok (.ifCond .ne 23, 3) := by decide +kernel
theorem dX4_readComparison_36 : decode cX4_readComparison 36 = .ok (.aload_n 0, 1) := by decide +kernel
theorem dX4_readComparison_37 : decode cX4_readComparison 37 = .ok (.getfield 9, 3) := by decide +kernel
theorem dX4_readComparison_40 : decode cX4_readComparison 40 = .ok (.bipush 62, 2) := by decide +kernel
theorem dX4_readComparison_42 : decode cX4_readComparison 42 = .ok (.invokevirtual 114, 3) := by decide +kernel
theorem dX4_readComparison_45 : decode cX4_readComparison 45 = .ok (.ifCond .ne 11, 3) := by decide +kernel
theorem dX4_readComparison_48 : decode cX4_readComparison 48 = .ok (.aload_n 0, 1) := by decide +kernel
theorem dX4_readComparison_49 : decode cX4_readComparison 49 = .ok (.getfield 9, 3) := by decide +kernel
theorem dX4_readComparison_52 : decode cX4_readComparison 52 = .ok (.iconst 1, 1) := by decide +kernel
theorem dX4_readComparison_53 : decode cX4_readComparison 53 = .ok (.invokevirtual 53, 3) := by decide +kernel
theorem dX4_readComparison_56 : decode cX4_readComparison 56 = .ok (.aload_n 0, 1) := by decide +kernel
theorem dX4_readComparison_57 : decode cX4_readComparison 57 = .ok (.getfield 9, 3) := by decide +kernel
theorem dX4_readComparison_60 : decode cX4_readComparison 60 = .ok (.invokevirtual 56, 3) := by decide +kernel
theorem dX4_readComparison_63 : decode cX4_readComparison 63 = .ok (.aload_n 0, 1) := by decide +kernel
theorem dX4_readComparison_64 : decode cX4_readComparison 64 = .ok (.aload_n 0, 1) := by decide +kernel
theorem dX4_readComparison_65 : decode cX4_readComparison 65 = .ok (.getfield 34, 3) := by decide +kernel
theorem dX4_readComparison_68 : decode cX4_readComparison 68 = .ok (.invokevirtual 131, 3) := by decide +kernel
theorem dX4_readComparison_71 : decode cX4_readComparison 71 = .ok (.lconst 0, 1) := by decide +kernel
theorem dX4_readComparison_72 : decode cX4_readComparison 72 = .ok (.lstore_n 3, 1) := by decide +kernel
theorem dX4_readComparison_73 : decode cX4_readComparison 73 = .ok (.iconst 0, 1) := by decide +kernel
theorem dX4_readComparison_74 : decode cX4_readComparison 74 = .ok (.istore 5, 2) := by decide +kernel
theorem dX4_readComparison_76 : decode cX4_readComparison 76 = .ok (.iload 5, 2) := by decide +kernel
theorem dX4_readComparison_78 : decode cX4_readComparison 78 = .ok (.aload_n 0, 1) := by decide +kernel
theorem dX4_readComparison_79 : decode cX4_readComparison 79 = .ok (.getfield 31, 3) := by decide +kernel
theorem dX4_readComparison_82 : decode cX4_readComparison 82 = .ok (.getfield 92, 3) := by decide +kernel
theorem dX4_readComparison_85 : decode cX4_readComparison 85 = .ok (.if_icmp .ge 68, 3) := by decide +kernel
theorem dX4_readComparison_88 : decode cX4_readComparison 88 = .ok (.aload_n 0, 1) := by decide +kernel
theorem dX4_readComparison_89 : decode cX4_readComparison 89 = .ok (.getfield 31, 3) := by decide +kernel
theorem dX4_readComparison_92 : decode cX4_readComparison 92 = .ok (.iload 5, 2) := by decide +kernel
theorem dX4_readComparison_94 : decode cX4_readComparison 94 = .ok (.invokevirtual 134, 3) := by decide +kernel
theorem dX4_readComparison_97 : decode cX4_readComparison 97 = .ok (.aload_n 0, 1) := by decide +kernel
theorem dX4_readComparison_98 : decode cX4_readComparison 98 = .ok (.getfield 34, 3) := by decide +kernel
theorem dX4_readComparison_101 : decode cX4_readComparison 101 = .ok (.iload 5, 2) := by decide +kernel
theorem dX4_readComparison_103 : decode cX4_readComparison 103 = .ok (.invokevirtual 134, 3) := by decide +kernel
theorem dX4_readComparison_106 : decode cX4_readComparison 106 = .ok (.invokestatic 138, 3) := by decide +kernel
theorem dX4_readComparison_109 : decode cX4_readComparison 109 = .ok (.istore 6, 2) := by decide +kernel
theorem dX4_readComparison_111 : decode cX4_readComparison 111 = .ok (.iload_n 1, 1) := by decide +kernel
theorem dX4_readComparison_112 : decode cX4_readComparison 112 = .ok (.ifCond .eq 11, 3) := by decide +kernel
theorem dX4_readComparison_115 : decode cX4_readComparison 115 = .ok (.iload 6, 2) := by decide +kernel
theorem dX4_readComparison_117 : decode cX4_readComparison 117 = .ok (.ifCond .ge 30, 3) := by decide +kernel
theorem dX4_readComparison_120 : decode cX4_readComparison 120 = .ok (.goto 20, 3) := by decide +kernel
theorem dX4_readComparison_123 : decode cX4_readComparison 123 = .ok (.iload_n 2, 1) := by decide +kernel
theorem dX4_readComparison_124 : decode cX4_readComparison 124 = .ok (.ifCond .eq 11, 3) := by decide +kernel
theorem dX4_readComparison_127 : decode cX4_readComparison 127 = .ok (.iload 6, 2) := by decide +kernel
theorem dX4_readComparison_129 : decode cX4_readComparison 129 = .ok (.ifCond .ne 18, 3) := by decide +kernel
theorem dX4_readComparison_132 : decode cX4_readComparison 132 = .ok (.goto 8, 3) := by decide +kernel
theorem dX4_readComparison_135 : decode cX4_readComparison 135 = .ok (.iload 6, 2) := by decide +kernel
theorem dX4_readComparison_137 : decode cX4_readComparison 137 = .ok (.ifCond .le 10, 3) := by decide +kernel
theorem dX4_readComparison_140 : decode cX4_readComparison 140 = .ok (.lload_n 3, 1) := by decide +kernel
theorem dX4_readComparison_141 : decode cX4_readComparison 141 = .ok (.lconst 1, 1) := by decide +kernel
theorem dX4_readComparison_142 : decode cX4_readComparison 142 = .ok (.iload 5, 2) := by decide +kernel
theorem dX4_readComparison_144 : decode cX4_readComparison 144 = .ok (.lshl, 1) := by decide +kernel
theorem dX4_readComparison_145 : decode cX4_readComparison 145 = .ok (.lor, 1) := by decide +kernel
theorem dX4_readComparison_146 : decode cX4_readComparison 146 = .ok (.lstore_n 3, 1) := by decide +kernel
theorem dX4_readComparison_147 : decode cX4_readComparison 147 = .ok (.iinc 5 1, 3) := by decide +kernel
theorem dX4_readComparison_150 : decode cX4_readComparison 150 = .ok (.goto (-74), 3) := by decide +kernel
theorem dX4_readComparison_153 : decode cX4_readComparison 153 = .ok (.lload_n 3, 1) := by decide +kernel
theorem dX4_readComparison_154 : decode cX4_readComparison 154 = .ok (.lreturn, 1) := by decide +kernel
set_option maxRecDepth 100000 in
theorem t_X4_readComparison_76 (G : MG) (hG : (g_l G).stackTraces = false) (d : Nat) (hd : 7 ≤ d)    : ∀ (n : Nat) (σ : MsSt) (l0 : Nat) (l1 : Int32) (l2 : Int32) (l3 : Int64) (l5 : Int32) (h0 : ms_kd l0 = 5), TrO G mX4_readComparison d 0 0 0 0 ms_wj 76 [(0, .ref l0), (1, .int l1), (2, .int l2), (3, .long l3), (5, .int l5)] [] σ (f_X4_readComparison_76 n σ l0 l1 l2 l3 l5) := by
  intro n
  induction n with
  | zero => exact fun _ _ _ _ _ _ _ => tr_none
  | succ n ih =>
    intro σ l0 l1 l2 l3 l5 h0
    show TrO G mX4_readComparison d 0 0 0 0 ms_wj 76 [(0, .ref l0), (1, .int l1), (2, .int l2), (3, .long l3), (5, .int l5)] [] σ (if l5 < (ms_i σ (ms_rf l0 4) 1) then (f_X5_get σ (ms_rf l0 4) l5).bind fun v6 => (f_X5_get σ (ms_rf l0 5) l5).bind fun v7 => (f_J6_compare_7cf53 σ v6 v7).bind fun v8 => if l1 = 0 then if l2 = 0 then if 0 < v8 then (f_X4_readComparison_76 n) σ l0 l1 l2 (l3 ||| (((1 : Int64) <<< (l5.toInt64 &&& 63)))) (l5 + 1) else (f_X4_readComparison_76 n) σ l0 l1 l2 l3 (l5 + 1) else if v8 = 0 then (f_X4_readComparison_76 n) σ l0 l1 l2 (l3 ||| (((1 : Int64) <<< (l5.toInt64 &&& 63)))) (l5 + 1) else (f_X4_readComparison_76 n) σ l0 l1 l2 l3 (l5 + 1) else if v8 < 0 then (f_X4_readComparison_76 n) σ l0 l1 l2 (l3 ||| (((1 : Int64) <<< (l5.toInt64 &&& 63)))) (l5 + 1) else (f_X4_readComparison_76 n) σ l0 l1 l2 l3 (l5 + 1) else some (l3, σ))
    refine tr_iload (i := 4) dX4_readComparison_76 rfl ?_
    refine tr_aload_n (i := 0) dX4_readComparison_78 rfl ?_
    refine tr_getR 4 h0 fl_X4_31 (by decide +kernel) dX4_readComparison_79 ?_
    refine tr_getI 5 (rk_4_4 h0) fl_X4_92 (by decide +kernel) dX4_readComparison_82 ?_
    refine tr_icge (o := none) (tgt := 153) dX4_readComparison_85 (by decide) ?_ ?_
    · refine tr_lload_n (i := 3) dX4_readComparison_153 rfl ?_
      exact tr_lret rfl rfl (by decide) (by decide) dX4_readComparison_154
    · refine tr_aload_n (i := 0) dX4_readComparison_88 rfl ?_
      refine tr_getR 4 h0 fl_X4_31 (by decide +kernel) dX4_readComparison_89 ?_
      refine tr_iload (i := 4) dX4_readComparison_92 rfl ?_
      refine tr_c_i (ms_cV (rest := []) (al := [.int l5]) 5 (sp_X5_get G hG (d - 1) (by omega) σ (ms_rf l0 4) l5 (rk_4_4 h0)) (rk_4_4 h0) (by decide +kernel) kl_X4_134 fv_X5_get dX4_readComparison_94 (show _ = some 1 by decide +kernel) (by omega) (Nat.le_of_ble_eq_true rfl) (by decide) (by decide)) (fun v6 => ?_)
      refine tr_aload_n (i := 0) dX4_readComparison_97 rfl ?_
      refine tr_getR 4 h0 fl_X4_34 (by decide +kernel) dX4_readComparison_98 ?_
      refine tr_iload (i := 4) dX4_readComparison_101 rfl ?_
      refine tr_c_i (ms_cV (rest := [.int v6]) (al := [.int l5]) 5 (sp_X5_get G hG (d - 1) (by omega) σ (ms_rf l0 5) l5 (rk_4_5 h0)) (rk_4_5 h0) (by decide +kernel) kl_X4_134 fv_X5_get dX4_readComparison_103 (show _ = some 1 by decide +kernel) (by omega) (Nat.le_of_ble_eq_true rfl) (by decide) (by decide)) (fun v7 => ?_)
      refine tr_c_i (ms_cS (rest := []) (al := [.int v6, .int v7]) (sp_J6_compare_7cf53 G hG (d - 1) (by omega) σ v6 v7) kl_X4_138 fs_J6_compare_7cf53 dX4_readComparison_106 (show _ = some 2 by decide +kernel) (by omega) (Nat.le_of_ble_eq_true rfl) (by decide) (by decide)) (fun v8 => ?_)
      refine tr_istore (lv' := [(0, .ref l0), (1, .int l1), (2, .int l2), (3, .long l3), (5, .int l5), (6, .int v8)]) [1, 2, 3, 4, 5, 0] dX4_readComparison_109 (by decide) rfl ?_
      refine tr_iload_n (i := 1) dX4_readComparison_111 rfl ?_
      refine tr_ifeq (o := none) (tgt := 123) dX4_readComparison_112 (by decide) ?_ ?_
      · refine tr_iload_n (i := 2) dX4_readComparison_123 rfl ?_
        refine tr_ifeq (o := none) (tgt := 135) dX4_readComparison_124 (by decide) ?_ ?_
        · refine tr_iload (i := 5) dX4_readComparison_135 rfl ?_
          refine tr_ifle (o := none) (tgt := 147) dX4_readComparison_137 (by decide) ?_ ?_
          · refine tr_iinc (k := 4) (v := (l5 + 1)) (lv' := [(0, .ref l0), (1, .int l1), (2, .int l2), (3, .long l3), (5, .int (l5 + 1))]) [1, 2, 3, 4, 0] dX4_readComparison_147 rfl rfl (by decide) rfl ?_
            refine tr_goto (tgt := 76) dX4_readComparison_150 (by decide) ?_
            exact (fun s y0 y1 y2 y3 y4 g0 => ih s y0 y1 y2 y3 y4 g0) σ l0 l1 l2 l3 (l5 + 1) h0
          · refine tr_lload_n (i := 3) dX4_readComparison_140 rfl ?_
            refine tr_lconst (v := 1) dX4_readComparison_141 (by decide +kernel) ?_
            refine tr_iload (i := 4) dX4_readComparison_142 rfl ?_
            refine tr_lshl dX4_readComparison_144 ?_
            refine tr_lor dX4_readComparison_145 ?_
            refine tr_lstore_n (lv' := [(0, .ref l0), (1, .int l1), (2, .int l2), (3, .long (l3 ||| (((1 : Int64) <<< (l5.toInt64 &&& 63))))), (5, .int l5)]) [1, 2, 3, 0, 4] dX4_readComparison_146 (by decide) rfl ?_
            refine tr_iinc (k := 4) (v := (l5 + 1)) (lv' := [(0, .ref l0), (1, .int l1), (2, .int l2), (3, .long (l3 ||| (((1 : Int64) <<< (l5.toInt64 &&& 63))))), (5, .int (l5 + 1))]) [1, 2, 3, 4, 0] dX4_readComparison_147 rfl rfl (by decide) rfl ?_
            refine tr_goto (tgt := 76) dX4_readComparison_150 (by decide) ?_
            exact (fun s y0 y1 y2 y3 y4 g0 => ih s y0 y1 y2 y3 y4 g0) σ l0 l1 l2 (l3 ||| (((1 : Int64) <<< (l5.toInt64 &&& 63)))) (l5 + 1) h0
        · refine tr_iload (i := 5) dX4_readComparison_127 rfl ?_
          refine tr_ifne (o := none) (tgt := 147) dX4_readComparison_129 (by decide) ?_ ?_
          · refine tr_iinc (k := 4) (v := (l5 + 1)) (lv' := [(0, .ref l0), (1, .int l1), (2, .int l2), (3, .long l3), (5, .int (l5 + 1))]) [1, 2, 3, 4, 0] dX4_readComparison_147 rfl rfl (by decide) rfl ?_
            refine tr_goto (tgt := 76) dX4_readComparison_150 (by decide) ?_
            exact (fun s y0 y1 y2 y3 y4 g0 => ih s y0 y1 y2 y3 y4 g0) σ l0 l1 l2 l3 (l5 + 1) h0
          · refine tr_goto (tgt := 140) dX4_readComparison_132 (by decide) ?_
            refine tr_lload_n (i := 3) dX4_readComparison_140 rfl ?_
            refine tr_lconst (v := 1) dX4_readComparison_141 (by decide +kernel) ?_
            refine tr_iload (i := 4) dX4_readComparison_142 rfl ?_
            refine tr_lshl dX4_readComparison_144 ?_
            refine tr_lor dX4_readComparison_145 ?_
            refine tr_lstore_n (lv' := [(0, .ref l0), (1, .int l1), (2, .int l2), (3, .long (l3 ||| (((1 : Int64) <<< (l5.toInt64 &&& 63))))), (5, .int l5)]) [1, 2, 3, 0, 4] dX4_readComparison_146 (by decide) rfl ?_
            refine tr_iinc (k := 4) (v := (l5 + 1)) (lv' := [(0, .ref l0), (1, .int l1), (2, .int l2), (3, .long (l3 ||| (((1 : Int64) <<< (l5.toInt64 &&& 63))))), (5, .int (l5 + 1))]) [1, 2, 3, 4, 0] dX4_readComparison_147 rfl rfl (by decide) rfl ?_
            refine tr_goto (tgt := 76) dX4_readComparison_150 (by decide) ?_
            exact (fun s y0 y1 y2 y3 y4 g0 => ih s y0 y1 y2 y3 y4 g0) σ l0 l1 l2 (l3 ||| (((1 : Int64) <<< (l5.toInt64 &&& 63)))) (l5 + 1) h0
      · refine tr_iload (i := 5) dX4_readComparison_115 rfl ?_
        refine tr_ifge (o := none) (tgt := 147) dX4_readComparison_117 (by decide) ?_ ?_
        · refine tr_iinc (k := 4) (v := (l5 + 1)) (lv' := [(0, .ref l0), (1, .int l1), (2, .int l2), (3, .long l3), (5, .int (l5 + 1))]) [1, 2, 3, 4, 0] dX4_readComparison_147 rfl rfl (by decide) rfl ?_
          refine tr_goto (tgt := 76) dX4_readComparison_150 (by decide) ?_
          exact (fun s y0 y1 y2 y3 y4 g0 => ih s y0 y1 y2 y3 y4 g0) σ l0 l1 l2 l3 (l5 + 1) h0
        · refine tr_goto (tgt := 140) dX4_readComparison_120 (by decide) ?_
          refine tr_lload_n (i := 3) dX4_readComparison_140 rfl ?_
          refine tr_lconst (v := 1) dX4_readComparison_141 (by decide +kernel) ?_
          refine tr_iload (i := 4) dX4_readComparison_142 rfl ?_
          refine tr_lshl dX4_readComparison_144 ?_
          refine tr_lor dX4_readComparison_145 ?_
          refine tr_lstore_n (lv' := [(0, .ref l0), (1, .int l1), (2, .int l2), (3, .long (l3 ||| (((1 : Int64) <<< (l5.toInt64 &&& 63))))), (5, .int l5)]) [1, 2, 3, 0, 4] dX4_readComparison_146 (by decide) rfl ?_
          refine tr_iinc (k := 4) (v := (l5 + 1)) (lv' := [(0, .ref l0), (1, .int l1), (2, .int l2), (3, .long (l3 ||| (((1 : Int64) <<< (l5.toInt64 &&& 63))))), (5, .int (l5 + 1))]) [1, 2, 3, 4, 0] dX4_readComparison_147 rfl rfl (by decide) rfl ?_
          refine tr_goto (tgt := 76) dX4_readComparison_150 (by decide) ?_
          exact (fun s y0 y1 y2 y3 y4 g0 => ih s y0 y1 y2 y3 y4 g0) σ l0 l1 l2 (l3 ||| (((1 : Int64) <<< (l5.toInt64 &&& 63)))) (l5 + 1) h0
set_option maxRecDepth 100000 in
theorem t_X4_readComparison_56 (G : MG) (hG : (g_l G).stackTraces = false) (d : Nat) (hd : 7 ≤ d)    (σ : MsSt) (l0 : Nat) (l1 : Int32) (l2 : Int32) (h0 : ms_kd l0 = 5) : TrO G mX4_readComparison d 0 0 0 0 ms_wj 56 [(0, .ref l0), (1, .int l1), (2, .int l2)] [] σ (f_X4_readComparison_56 σ l0 l1 l2) := by
  show TrO G mX4_readComparison d 0 0 0 0 ms_wj 56 [(0, .ref l0), (1, .int l1), (2, .int l2)] [] σ ((f_X9_advance σ (ms_rf l0 0)).bind fun s4 => (f_X4_readValue s4 l0 (ms_rf l0 5)).bind fun s5 => f_X4_readComparison_76 ms_fuel s5 l0 l1 l2 0 0)
  refine tr_aload_n (i := 0) dX4_readComparison_56 rfl ?_
  refine tr_getR 4 h0 fl_X4_9 (by decide +kernel) dX4_readComparison_57 ?_
  refine tr_c_wv (ms_cV (rest := []) (al := []) 9 (sp_X9_advance G hG (d - 1) (by omega) σ (ms_rf l0 0) (rk_4_0 h0)) (rk_4_0 h0) (by decide +kernel) kl_X4_56 fv_X9_advance dX4_readComparison_60 (show _ = some 0 by decide +kernel) (by omega) (Nat.le_of_ble_eq_true rfl) (by decide) (by decide)) (fun s4 => ?_)
  refine tr_aload_n (i := 0) dX4_readComparison_63 rfl ?_
  refine tr_aload_n (i := 0) dX4_readComparison_64 rfl ?_
  refine tr_getR 4 h0 fl_X4_34 (by decide +kernel) dX4_readComparison_65 ?_
  refine tr_c_wv (ms_cV (rest := []) (al := [.ref (ms_rf l0 5)]) 4 (sp_X4_readValue G hG (d - 1) (by omega) s4 l0 (ms_rf l0 5) h0 (rk_4_5 h0)) h0 (by decide +kernel) kl_X4_131 fv_X4_readValue dX4_readComparison_68 (show _ = some 1 by decide +kernel) (by omega) (Nat.le_of_ble_eq_true rfl) (by decide) (by decide)) (fun s5 => ?_)
  refine tr_lconst (v := 0) dX4_readComparison_71 (by decide +kernel) ?_
  refine tr_lstore_n (lv' := [(0, .ref l0), (1, .int l1), (2, .int l2), (3, .long 0)]) [1, 2, 3, 0] dX4_readComparison_72 (by decide) rfl ?_
  refine tr_iconst (v := 0) dX4_readComparison_73 (by decide +kernel) ?_
  refine tr_istore (lv' := [(0, .ref l0), (1, .int l1), (2, .int l2), (3, .long 0), (5, .int 0)]) [1, 2, 3, 4, 0] dX4_readComparison_74 (by decide) rfl ?_
  exact t_X4_readComparison_76 G hG d hd ms_fuel s5 l0 l1 l2 0 0 h0
set_option maxRecDepth 100000 in
theorem sp_X4_readComparison (G : MG) (hG : (g_l G).stackTraces = false) (d : Nat) (hd : 7 ≤ d)   (σ : MsSt) (l0 : Nat) (h0 : ms_kd l0 = 5) : MsSpec G mX4_readComparison d 0 0 [.ref l0] σ ms_wj (f_X4_readComparison σ l0) := by
  refine ms_start (by decide +kernel) rfl rfl (Nat.le_of_ble_eq_true rfl) ?_
  show TrO G mX4_readComparison d 0 0 0 0 ms_wj 0 [(0, .ref l0)] [] σ ((f_X4_readValue σ l0 (ms_rf l0 4)).bind fun s1 => (f_X9_isSymbol s1 (ms_rf l0 0) 60).bind fun v2 => (f_X9_isSymbol s1 (ms_rf l0 0) 61).bind fun v3 => if v2 = 0 then if v3 = 0 then (f_X9_isSymbol s1 (ms_rf l0 0) 62).bind fun v9 => if v9 = 0 then (f_X9_fail s1 (ms_rf l0 0) 1).bind fun s10 => f_X4_readComparison_56 s10 l0 v2 v3 else f_X4_readComparison_56 s1 l0 v2 v3 else f_X4_readComparison_56 s1 l0 v2 v3 else f_X4_readComparison_56 s1 l0 v2 v3)
  refine tr_aload_n (i := 0) dX4_readComparison_0 rfl ?_
  refine tr_aload_n (i := 0) dX4_readComparison_1 rfl ?_
  refine tr_getR 4 h0 fl_X4_31 (by decide +kernel) dX4_readComparison_2 ?_
  refine tr_c_wv (ms_cV (rest := []) (al := [.ref (ms_rf l0 4)]) 4 (sp_X4_readValue G hG (d - 1) (by omega) σ l0 (ms_rf l0 4) h0 (rk_4_4 h0)) h0 (by decide +kernel) kl_X4_131 fv_X4_readValue dX4_readComparison_5 (show _ = some 1 by decide +kernel) (by omega) (Nat.le_of_ble_eq_true rfl) (by decide) (by decide)) (fun s1 => ?_)
  refine tr_aload_n (i := 0) dX4_readComparison_8 rfl ?_
  refine tr_getR 4 h0 fl_X4_9 (by decide +kernel) dX4_readComparison_9 ?_
  refine tr_bipush (v := 60) dX4_readComparison_12 (by decide +kernel) ?_
  refine tr_c_i (ms_cV (rest := []) (al := [.int 60]) 9 (sp_X9_isSymbol G hG (d - 1) (by omega) s1 (ms_rf l0 0) 60 (rk_4_0 h0)) (rk_4_0 h0) (by decide +kernel) kl_X4_114 fv_X9_isSymbol dX4_readComparison_14 (show _ = some 1 by decide +kernel) (by omega) (Nat.le_of_ble_eq_true rfl) (by decide) (by decide)) (fun v2 => ?_)
  refine tr_istore_n (lv' := [(0, .ref l0), (1, .int v2)]) [1, 0] dX4_readComparison_17 (by decide) rfl ?_
  refine tr_aload_n (i := 0) dX4_readComparison_18 rfl ?_
  refine tr_getR 4 h0 fl_X4_9 (by decide +kernel) dX4_readComparison_19 ?_
  refine tr_bipush (v := 61) dX4_readComparison_22 (by decide +kernel) ?_
  refine tr_c_i (ms_cV (rest := []) (al := [.int 61]) 9 (sp_X9_isSymbol G hG (d - 1) (by omega) s1 (ms_rf l0 0) 61 (rk_4_0 h0)) (rk_4_0 h0) (by decide +kernel) kl_X4_114 fv_X9_isSymbol dX4_readComparison_24 (show _ = some 1 by decide +kernel) (by omega) (Nat.le_of_ble_eq_true rfl) (by decide) (by decide)) (fun v3 => ?_)
  refine tr_istore_n (lv' := [(0, .ref l0), (1, .int v2), (2, .int v3)]) [1, 2, 0] dX4_readComparison_27 (by decide) rfl ?_
  refine tr_iload_n (i := 1) dX4_readComparison_28 rfl ?_
  refine tr_ifne (o := none) (tgt := 56) dX4_readComparison_29 (by decide) ?_ ?_
  · exact t_X4_readComparison_56 G hG d hd s1 l0 v2 v3 h0
  · refine tr_iload_n (i := 2) dX4_readComparison_32 rfl ?_
    refine tr_ifne (o := none) (tgt := 56) dX4_readComparison_33 (by decide) ?_ ?_
    · exact t_X4_readComparison_56 G hG d hd s1 l0 v2 v3 h0
    · refine tr_aload_n (i := 0) dX4_readComparison_36 rfl ?_
      refine tr_getR 4 h0 fl_X4_9 (by decide +kernel) dX4_readComparison_37 ?_
      refine tr_bipush (v := 62) dX4_readComparison_40 (by decide +kernel) ?_
      refine tr_c_i (ms_cV (rest := []) (al := [.int 62]) 9 (sp_X9_isSymbol G hG (d - 1) (by omega) s1 (ms_rf l0 0) 62 (rk_4_0 h0)) (rk_4_0 h0) (by decide +kernel) kl_X4_114 fv_X9_isSymbol dX4_readComparison_42 (show _ = some 1 by decide +kernel) (by omega) (Nat.le_of_ble_eq_true rfl) (by decide) (by decide)) (fun v9 => ?_)
      refine tr_ifne (o := none) (tgt := 56) dX4_readComparison_45 (by decide) ?_ ?_
      · exact t_X4_readComparison_56 G hG d hd s1 l0 v2 v3 h0
      · refine tr_aload_n (i := 0) dX4_readComparison_48 rfl ?_
        refine tr_getR 4 h0 fl_X4_9 (by decide +kernel) dX4_readComparison_49 ?_
        refine tr_iconst (v := 1) dX4_readComparison_52 (by decide +kernel) ?_
        refine tr_c_wv (ms_cV (rest := []) (al := [.int 1]) 9 (sp_X9_fail G hG (d - 1) (by omega) s1 (ms_rf l0 0) 1 (rk_4_0 h0)) (rk_4_0 h0) (by decide +kernel) kl_X4_53 fv_X9_fail dX4_readComparison_53 (show _ = some 1 by decide +kernel) (by omega) (Nat.le_of_ble_eq_true rfl) (by decide) (by decide)) (fun s10 => ?_)
        exact t_X4_readComparison_56 G hG d hd s10 l0 v2 v3 h0
theorem dX4_allPlaces_0 : decode cX4_allPlaces 0 = .ok (.lconst 1, 1) := by decide +kernel
theorem dX4_allPlaces_1 : decode cX4_allPlaces 1 = .ok (.aload_n 0, 1) := by decide +kernel
theorem dX4_allPlaces_2 : decode cX4_allPlaces 2 = .ok (.getfield 24, 3) := by decide +kernel
theorem dX4_allPlaces_5 : decode cX4_allPlaces 5 = .ok (.getfield 92, 3) := by decide +kernel
theorem dX4_allPlaces_8 : decode cX4_allPlaces 8 = .ok (.lshl, 1) := by decide +kernel
theorem dX4_allPlaces_9 : decode cX4_allPlaces 9 = .ok (.lconst 1, 1) := by decide +kernel
theorem dX4_allPlaces_10 : decode cX4_allPlaces 10 = .ok (.lsub, 1) := by decide +kernel
theorem dX4_allPlaces_11 : decode cX4_allPlaces 11 = .ok (.lreturn, 1) := by decide +kernel
set_option maxRecDepth 100000 in
theorem sp_X4_allPlaces (G : MG) (hG : (g_l G).stackTraces = false) (d : Nat) (hd : 0 ≤ d)   (σ : MsSt) (l0 : Nat) (h0 : ms_kd l0 = 5) : MsSpec G mX4_allPlaces d 0 0 [.ref l0] σ (ms_kj σ) (f_X4_allPlaces σ l0) := by
  refine ms_start (by decide +kernel) rfl rfl (Nat.le_of_ble_eq_true rfl) ?_
  show TrO G mX4_allPlaces d 0 0 0 0 (ms_kj σ) 0 [(0, .ref l0)] [] σ (some ((((1 : Int64) <<< ((ms_i σ (ms_rf l0 2) 1).toInt64 &&& 63))) - 1))
  refine tr_lconst (v := 1) dX4_allPlaces_0 (by decide +kernel) ?_
  refine tr_aload_n (i := 0) dX4_allPlaces_1 rfl ?_
  refine tr_getR 4 h0 fl_X4_24 (by decide +kernel) dX4_allPlaces_2 ?_
  refine tr_getI 5 (rk_4_2 h0) fl_X4_92 (by decide +kernel) dX4_allPlaces_5 ?_
  refine tr_lshl dX4_allPlaces_8 ?_
  refine tr_lconst (v := 1) dX4_allPlaces_9 (by decide +kernel) ?_
  refine tr_lsub dX4_allPlaces_10 ?_
  exact tr_lret rfl rfl (by decide) (by decide) dX4_allPlaces_11
theorem dX4_readFactor_0 : decode cX4_readFactor 0 = .ok (.aload_n 0, 1) := by decide +kernel
theorem dX4_readFactor_1 : decode cX4_readFactor 1 = .ok (.getfield 9, 3) := by decide +kernel
theorem dX4_readFactor_4 : decode cX4_readFactor 4 = .ok (.ldc 112, 2) := by decide +kernel
theorem dX4_readFactor_6 : decode cX4_readFactor 6 = .ok (.invokevirtual 47, 3) := by decide +kernel
theorem dX4_readFactor_9 : decode cX4_readFactor 9 = .ok (.istore_n 2, 1) := by decide +kernel
theorem dX4_readFactor_10 : decode cX4_readFactor 10 = .ok (.iload_n 2, 1) := by decide +kernel
theorem dX4_readFactor_11 : decode cX4_readFactor 11 = .ok (.ifCond .ne 20, 3) := by decide +kernel
theorem dX4_readFactor_14 : decode cX4_readFactor 14 = .ok (.aload_n 0, 1) := by decide +kernel
theorem dX4_readFactor_15 : decode cX4_readFactor 15 = .ok (.getfield 9, 3) := by decide +kernel
theorem dX4_readFactor_18 : decode cX4_readFactor 18 = .ok (.bipush 40, 2) := by decide +kernel
theorem dX4_readFactor_20 : decode cX4_readFactor 20 = .ok (.invokevirtual 114, 3) := by decide +kernel
theorem dX4_readFactor_23 : decode cX4_readFactor 23 = .ok (.ifCond .ne 8, 3) := by decide +kernel
theorem dX4_readFactor_26 : decode cX4_readFactor 26 = .ok (.aload_n 0, 1) := by decide +kernel
theorem dX4_readFactor_27 : decode cX4_readFactor 27 = .ok (.invokevirtual 118, 3) := by decide +kernel
theorem dX4_readFactor_30 : decode cX4_readFactor 30 = .ok (.lreturn, 1) := by decide +kernel
theorem dX4_readFactor_31 : decode cX4_readFactor 31 = .ok (.iload_n 1, 1) := by decide +kernel
theorem dX4_readFactor_32 : decode cX4_readFactor 32 = .ok (.bipush 6, 2) := by decide +kernel
theorem dX4_readFactor_34 : decode cX4_readFactor 34 = .ok (.if_icmp .lt 13, 3) := by decide +kernel
theorem dX4_readFactor_37 : decode cX4_readFactor 37 = .ok (.aload_n 0, 1) := by decide +kernel
theorem dX4_readFactor_38 : decode cX4_readFactor 38 = .ok (.getfield 9, 3) := by decide +kernel
theorem dX4_readFactor_41 : decode cX4_readFactor 41 = .ok (.iconst 3, 1) := by decide +kernel
theorem dX4_readFactor_42 : decode cX4_readFactor 42 = .ok (.invokevirtual 53, 3) := by decide +kernel
theorem dX4_readFactor_45 : decode cX4_readFactor 45 = .ok (.lconst 0, 1) := by decide +kernel
theorem dX4_readFactor_46 : decode cX4_readFactor 46 = .ok (.lreturn, 1) := by decide +kernel
theorem dX4_readFactor_47 : decode cX4_readFactor 47 = .ok (.aload_n 0, 1) := by decide +kernel
theorem dX4_readFactor_48 : decode cX4_readFactor 48 = .ok (.getfield 9, 3) := by decide +kernel
theorem dX4_readFactor_51 : decode cX4_readFactor 51 = .ok (.invokevirtual 56, 3) := by decide +kernel
theorem dX4_readFactor_54 : decode cX4_readFactor 54 = .ok (.iload_n 2, 1) := by decide +kernel
theorem dX4_readFactor_55 : decode cX4_readFactor 55 = .ok (.ifCond .eq 20, 3) := by decide +kernel
theorem dX4_readFactor_58 : decode cX4_readFactor 58 = .ok (.aload_n 0, 1) := by decide +kernel
theorem dX4_readFactor_59 : decode cX4_readFactor 59 = .ok (.invokevirtual 122, 3) := by decide +kernel
theorem dX4_readFactor_62 : decode cX4_readFactor 62 = .ok (.aload_n 0, 1) := by decide +kernel
theorem dX4_readFactor_63 : decode cX4_readFactor 63 = .ok (.iload_n 1, 1) := by decide +kernel
theorem dX4_readFactor_64 : decode cX4_readFactor 64 = .ok (.iconst 1, 1) := by decide +kernel
theorem dX4_readFactor_65 : decode cX4_readFactor 65 = .ok (.iadd, 1) := by decide +kernel
theorem dX4_readFactor_66 : decode cX4_readFactor 66 = .ok (.invokevirtual 107, 3) := by decide +kernel
theorem dX4_readFactor_69 : decode cX4_readFactor 69 = .ok (.ldc2_w 125, 3) := by decide +kernel
theorem dX4_readFactor_72 : decode cX4_readFactor 72 = .ok (.lxor, 1) := by decide +kernel
theorem dX4_readFactor_73 : decode cX4_readFactor 73 = .ok (.land, 1) := by decide +kernel
theorem dX4_readFactor_74 : decode cX4_readFactor 74 = .ok (.lreturn, 1) := by decide +kernel
theorem dX4_readFactor_75 : decode cX4_readFactor 75 = .ok (.aload_n 0, 1) := by decide +kernel
theorem dX4_readFactor_76 : decode cX4_readFactor 76 = .ok (.iload_n 1, 1) := by decide +kernel
theorem dX4_readFactor_77 : decode cX4_readFactor 77 = .ok (.iconst 1, 1) := by decide +kernel
theorem dX4_readFactor_78 : decode cX4_readFactor 78 = .ok (.iadd, 1) := by decide +kernel
theorem dX4_readFactor_79 : decode cX4_readFactor 79 = .ok (.invokevirtual 59, 3) := by decide +kernel
theorem dX4_readFactor_82 : decode cX4_readFactor 82 = .ok (.lstore_n 3, 1) := by decide +kernel
theorem dX4_readFactor_83 : decode cX4_readFactor 83 = .ok (.aload_n 0, 1) := by decide +kernel
theorem dX4_readFactor_84 : decode cX4_readFactor 84 = .ok (.getfield 9, 3) := by decide +kernel
theorem dX4_readFactor_87 : decode cX4_readFactor 87 = .ok (.bipush 41, 2) := by decide +kernel
theorem dX4_readFactor_89 : decode cX4_readFactor 89 = .ok (.invokevirtual 127, 3) := by decide +kernel
theorem dX4_readFactor_92 : decode cX4_readFactor 92 = .ok (.lload_n 3, 1) := by decide +kernel
theorem dX4_readFactor_93 : decode cX4_readFactor 93 = .ok (.lreturn, 1) := by decide +kernel
set_option maxRecDepth 100000 in
theorem t_X4_readFactor_31 (G : MG) (hG : (g_l G).stackTraces = false) (d : Nat) (hd : 8 ≤ d) (r_X4_readFactor : MsSt → Nat → Int32 → Option (Int64 × MsSt)) (r_X4_readTest : MsSt → Nat → Int32 → Option (Int64 × MsSt)) (dr : Nat) (hdr : dr + 1 ≤ d) (hr_X4_readFactor : ∀ (s : MsSt) (x0 : Nat) (x1 : Int32), ms_kd x0 = 5 → MsSpec G mX4_readFactor dr 0 0 [.ref x0, .int x1] s ms_wj (r_X4_readFactor s x0 x1)) (hr_X4_readTest : ∀ (s : MsSt) (x0 : Nat) (x1 : Int32), ms_kd x0 = 5 → MsSpec G mX4_readTest dr 0 0 [.ref x0, .int x1] s ms_wj (r_X4_readTest s x0 x1))  (σ : MsSt) (l0 : Nat) (l1 : Int32) (l2 : Int32) (h0 : ms_kd l0 = 5) : TrO G mX4_readFactor d 0 0 0 0 ms_wj 31 [(0, .ref l0), (1, .int l1), (2, .int l2)] [] σ (f_X4_readFactor_31 r_X4_readFactor r_X4_readTest σ l0 l1 l2) := by
  show TrO G mX4_readFactor d 0 0 0 0 ms_wj 31 [(0, .ref l0), (1, .int l1), (2, .int l2)] [] σ (if l1 < 6 then (f_X9_advance σ (ms_rf l0 0)).bind fun s2 => if l2 = 0 then ms_b2 (r_X4_readTest s2 l0 (l1 + 1)) fun v3 s4 => (f_X9_takeSymbol s4 (ms_rf l0 0) 41).bind fun s5 => some (v3, s5) else (f_X4_allPlaces s2 l0).bind fun v6 => ms_b2 (r_X4_readFactor s2 l0 (l1 + 1)) fun v7 s8 => some ((v6 &&& (v7 ^^^ (-1))), s8) else (f_X9_fail σ (ms_rf l0 0) 3).bind fun s9 => some (0, s9))
  refine tr_iload_n (i := 1) dX4_readFactor_31 rfl ?_
  refine tr_bipush (v := 6) dX4_readFactor_32 (by decide +kernel) ?_
  refine tr_iclt (o := none) (tgt := 47) dX4_readFactor_34 (by decide) ?_ ?_
  · refine tr_aload_n (i := 0) dX4_readFactor_47 rfl ?_
    refine tr_getR 4 h0 fl_X4_9 (by decide +kernel) dX4_readFactor_48 ?_
    refine tr_c_wv (ms_cV (rest := []) (al := []) 9 (sp_X9_advance G hG (d - 1) (by omega) σ (ms_rf l0 0) (rk_4_0 h0)) (rk_4_0 h0) (by decide +kernel) kl_X4_56 fv_X9_advance dX4_readFactor_51 (show _ = some 0 by decide +kernel) (by omega) (Nat.le_of_ble_eq_true rfl) (by decide) (by decide)) (fun s2 => ?_)
    refine tr_iload_n (i := 2) dX4_readFactor_54 rfl ?_
    refine tr_ifeq (o := none) (tgt := 75) dX4_readFactor_55 (by decide) ?_ ?_
    · refine tr_aload_n (i := 0) dX4_readFactor_75 rfl ?_
      refine tr_iload_n (i := 1) dX4_readFactor_76 rfl ?_
      refine tr_iconst (v := 1) dX4_readFactor_77 (by decide +kernel) ?_
      refine tr_iadd dX4_readFactor_78 ?_
      refine tr_d_wj (ms_cV (rest := []) (al := [.int (l1 + 1)]) 4 (hr_X4_readTest s2 l0 (l1 + 1) h0) h0 (by decide +kernel) kl_X4_59 fv_X4_readTest dX4_readFactor_79 (show _ = some 1 by decide +kernel) (by omega) (Nat.le_of_ble_eq_true rfl) (by decide) (by decide)) (fun v3 s4 => ?_)
      refine tr_lstore_n (lv' := [(0, .ref l0), (3, .long v3)]) [1, 0] dX4_readFactor_82 (by decide) rfl ?_
      refine tr_aload_n (i := 0) dX4_readFactor_83 rfl ?_
      refine tr_getR 4 h0 fl_X4_9 (by decide +kernel) dX4_readFactor_84 ?_
      refine tr_bipush (v := 41) dX4_readFactor_87 (by decide +kernel) ?_
      refine tr_c_wv (ms_cV (rest := []) (al := [.int 41]) 9 (sp_X9_takeSymbol G hG (d - 1) (by omega) s4 (ms_rf l0 0) 41 (rk_4_0 h0)) (rk_4_0 h0) (by decide +kernel) kl_X4_127 fv_X9_takeSymbol dX4_readFactor_89 (show _ = some 1 by decide +kernel) (by omega) (Nat.le_of_ble_eq_true rfl) (by decide) (by decide)) (fun s5 => ?_)
      refine tr_lload_n (i := 1) dX4_readFactor_92 rfl ?_
      exact tr_lret rfl rfl (by decide) (by decide) dX4_readFactor_93
    · refine tr_aload_n (i := 0) dX4_readFactor_58 rfl ?_
      refine tr_c_j (ms_cV (rest := []) (al := []) 4 (sp_X4_allPlaces G hG (d - 1) (by omega) s2 l0 h0) h0 (by decide +kernel) kl_X4_122 fv_X4_allPlaces dX4_readFactor_59 (show _ = some 0 by decide +kernel) (by omega) (Nat.le_of_ble_eq_true rfl) (by decide) (by decide)) (fun v6 => ?_)
      refine tr_aload_n (i := 0) dX4_readFactor_62 rfl ?_
      refine tr_iload_n (i := 1) dX4_readFactor_63 rfl ?_
      refine tr_iconst (v := 1) dX4_readFactor_64 (by decide +kernel) ?_
      refine tr_iadd dX4_readFactor_65 ?_
      refine tr_d_wj (ms_cV (rest := [.long v6]) (al := [.int (l1 + 1)]) 4 (hr_X4_readFactor s2 l0 (l1 + 1) h0) h0 (by decide +kernel) kl_X4_107 fv_X4_readFactor dX4_readFactor_66 (show _ = some 1 by decide +kernel) (by omega) (Nat.le_of_ble_eq_true rfl) (by decide) (by decide)) (fun v7 s8 => ?_)
      refine tr_ldcl (v := (-1)) (List.mem_of_getElem? (i := 1580) (by decide +kernel)) dX4_readFactor_69 ?_
      refine tr_lxor dX4_readFactor_72 ?_
      refine tr_land dX4_readFactor_73 ?_
      exact tr_lret rfl rfl (by decide) (by decide) dX4_readFactor_74
  · refine tr_aload_n (i := 0) dX4_readFactor_37 rfl ?_
    refine tr_getR 4 h0 fl_X4_9 (by decide +kernel) dX4_readFactor_38 ?_
    refine tr_iconst (v := 3) dX4_readFactor_41 (by decide +kernel) ?_
    refine tr_c_wv (ms_cV (rest := []) (al := [.int 3]) 9 (sp_X9_fail G hG (d - 1) (by omega) σ (ms_rf l0 0) 3 (rk_4_0 h0)) (rk_4_0 h0) (by decide +kernel) kl_X4_53 fv_X9_fail dX4_readFactor_42 (show _ = some 1 by decide +kernel) (by omega) (Nat.le_of_ble_eq_true rfl) (by decide) (by decide)) (fun s9 => ?_)
    refine tr_lconst (v := 0) dX4_readFactor_45 (by decide +kernel) ?_
    exact tr_lret rfl rfl (by decide) (by decide) dX4_readFactor_46
set_option maxRecDepth 100000 in
theorem sp_X4_readFactor (G : MG) (hG : (g_l G).stackTraces = false) (d : Nat) (hd : 8 ≤ d) (r_X4_readFactor : MsSt → Nat → Int32 → Option (Int64 × MsSt)) (r_X4_readTest : MsSt → Nat → Int32 → Option (Int64 × MsSt)) (dr : Nat) (hdr : dr + 1 ≤ d) (hr_X4_readFactor : ∀ (s : MsSt) (x0 : Nat) (x1 : Int32), ms_kd x0 = 5 → MsSpec G mX4_readFactor dr 0 0 [.ref x0, .int x1] s ms_wj (r_X4_readFactor s x0 x1)) (hr_X4_readTest : ∀ (s : MsSt) (x0 : Nat) (x1 : Int32), ms_kd x0 = 5 → MsSpec G mX4_readTest dr 0 0 [.ref x0, .int x1] s ms_wj (r_X4_readTest s x0 x1)) (σ : MsSt) (l0 : Nat) (l1 : Int32) (h0 : ms_kd l0 = 5) : MsSpec G mX4_readFactor d 0 0 [.ref l0, .int l1] σ ms_wj (f_X4_readFactor r_X4_readFactor r_X4_readTest σ l0 l1) := by
  refine ms_start (by decide +kernel) rfl rfl (Nat.le_of_ble_eq_true rfl) ?_
  show TrO G mX4_readFactor d 0 0 0 0 ms_wj 0 [(0, .ref l0), (1, .int l1)] [] σ ((f_X9_isWord σ (ms_rf l0 0) 621).bind fun v1 => if v1 = 0 then (f_X9_isSymbol σ (ms_rf l0 0) 40).bind fun v10 => if v10 = 0 then ms_b2 (f_X4_readComparison σ l0) fun v11 s12 => some (v11, s12) else f_X4_readFactor_31 r_X4_readFactor r_X4_readTest σ l0 l1 v1 else f_X4_readFactor_31 r_X4_readFactor r_X4_readTest σ l0 l1 v1)
  refine tr_aload_n (i := 0) dX4_readFactor_0 rfl ?_
  refine tr_getR 4 h0 fl_X4_9 (by decide +kernel) dX4_readFactor_1 ?_
  refine tr_ldcs 21 (tx := "not") (by decide) (by decide +kernel) dX4_readFactor_4 ?_
  refine tr_c_i (ms_cV (rest := []) (al := [.ref 621]) 9 (sp_X9_isWord G hG (d - 1) (by omega) σ (ms_rf l0 0) 621 (rk_4_0 h0) (⟨by decide, by decide⟩)) (rk_4_0 h0) (by decide +kernel) kl_X4_47 fv_X9_isWord dX4_readFactor_6 (show _ = some 1 by decide +kernel) (by omega) (Nat.le_of_ble_eq_true rfl) (by decide) (by decide)) (fun v1 => ?_)
  refine tr_istore_n (lv' := [(0, .ref l0), (1, .int l1), (2, .int v1)]) [1, 2, 0] dX4_readFactor_9 (by decide) rfl ?_
  refine tr_iload_n (i := 2) dX4_readFactor_10 rfl ?_
  refine tr_ifne (o := none) (tgt := 31) dX4_readFactor_11 (by decide) ?_ ?_
  · exact t_X4_readFactor_31 G hG d hd r_X4_readFactor r_X4_readTest dr hdr hr_X4_readFactor hr_X4_readTest σ l0 l1 v1 h0
  · refine tr_aload_n (i := 0) dX4_readFactor_14 rfl ?_
    refine tr_getR 4 h0 fl_X4_9 (by decide +kernel) dX4_readFactor_15 ?_
    refine tr_bipush (v := 40) dX4_readFactor_18 (by decide +kernel) ?_
    refine tr_c_i (ms_cV (rest := []) (al := [.int 40]) 9 (sp_X9_isSymbol G hG (d - 1) (by omega) σ (ms_rf l0 0) 40 (rk_4_0 h0)) (rk_4_0 h0) (by decide +kernel) kl_X4_114 fv_X9_isSymbol dX4_readFactor_20 (show _ = some 1 by decide +kernel) (by omega) (Nat.le_of_ble_eq_true rfl) (by decide) (by decide)) (fun v10 => ?_)
    refine tr_ifne (o := none) (tgt := 31) dX4_readFactor_23 (by decide) ?_ ?_
    · exact t_X4_readFactor_31 G hG d hd r_X4_readFactor r_X4_readTest dr hdr hr_X4_readFactor hr_X4_readTest σ l0 l1 v1 h0
    · refine tr_aload_n (i := 0) dX4_readFactor_26 rfl ?_
      refine tr_d_wj (ms_cV (rest := []) (al := []) 4 (sp_X4_readComparison G hG (d - 1) (by omega) σ l0 h0) h0 (by decide +kernel) kl_X4_118 fv_X4_readComparison dX4_readFactor_27 (show _ = some 0 by decide +kernel) (by omega) (Nat.le_of_ble_eq_true rfl) (by decide) (by decide)) (fun v11 s12 => ?_)
      exact tr_lret rfl rfl (by decide) (by decide) dX4_readFactor_30
theorem rc_X4_readFactor (G : MG) (hG : (g_l G).stackTraces = false) : ∀ (j d : Nat) (hd : 8 + 3 * j ≤ d) (σ : MsSt) (x0 : Nat) (x1 : Int32), ms_kd x0 = 5 → MsSpec G mX4_readFactor d 0 0 [.ref x0, .int x1] σ ms_wj (rec_X4_readFactor j σ x0 x1) := by
  intro j
  induction j with
  | zero => intro d hd σ x0 x1 h r hr; cases hr
  | succ j ih =>
    intro d hd σ x0 x1 h
    exact sp_X4_readFactor G hG d (by omega) (rec_X4_readFactor j) (f_X4_readTest (rec_X4_readFactor j)) (d - 1) (by omega) (fun s y0 y1 hy => ih (d - 1) (by omega) s y0 y1 hy)
      (fun s y0 y1 hy => sp_X4_readTest G hG (d - 1) (by omega) (rec_X4_readFactor j) (d - 3) (by omega) (fun s2 z0 z1 hz => ih (d - 3) (by omega) s2 z0 z1 hz) s y0 y1 hy) σ x0 x1 h
theorem dX4_readQuery_0 : decode cX4_readQuery 0 = .ok (.aload_n 0, 1) := by decide +kernel
theorem dX4_readQuery_1 : decode cX4_readQuery 1 = .ok (.invokevirtual 37, 3) := by decide +kernel
theorem dX4_readQuery_4 : decode cX4_readQuery 4 = .ok (.aload_n 0, 1) := by decide +kernel
theorem dX4_readQuery_5 : decode cX4_readQuery 5 = .ok (.getfield 9, 3) := by decide +kernel
theorem dX4_readQuery_8 : decode cX4_readQuery 8 = .ok (.iload_n 1, 1) := by decide +kernel
theorem dX4_readQuery_9 : decode cX4_readQuery 9 = .ok (.invokevirtual 40, 3) := by decide +kernel
theorem dX4_readQuery_12 : decode cX4_readQuery 12 = .ok (.aload_n 0, 1) := by decide +kernel
theorem dX4_readQuery_13 : decode cX4_readQuery 13 = .ok (.getfield 9, 3) := by decide +kernel
theorem dX4_readQuery_16 : decode cX4_readQuery 16 = .ok (.ldc 45, 2) := by decide +kernel
theorem dX4_readQuery_18 : decode cX4_readQuery 18 = .ok (.invokevirtual 47, 3) := by decide +kernel
theorem dX4_readQuery_21 : decode cX4_readQuery 21 = .ok (.istore_n 2, 1) := by decide +kernel
theorem dX4_readQuery_22 : decode cX4_readQuery 22 = .ok (.iload_n 2, 1) := by decide +kernel
theorem dX4_readQuery_23 : decode cX4_readQuery 23 = .ok (.ifCond .ne 23, 3) := by decide +kernel
theorem dX4_readQuery_26 : decode cX4_readQuery 26 = .ok (.aload_n 0, 1) := by decide +kernel
theorem dX4_readQuery_27 : decode cX4_readQuery 27 = .ok (.getfield 9, 3) := by decide +kernel
theorem dX4_readQuery_30 : decode cX4_readQuery 30 = .ok (.ldc 51, 2) := by decide +kernel
theorem dX4_readQuery_32 : decode cX4_readQuery 32 = .ok (.invokevirtual 47, 3) := by decide +kernel
theorem dX4_readQuery_35 : decode cX4_readQuery 35 = .ok (.ifCond .ne 11, 3) := by decide +kernel
theorem dX4_readQuery_38 : decode cX4_readQuery 38 = .ok (.aload_n 0, 1) := by decide +kernel
theorem dX4_readQuery_39 : decode cX4_readQuery 39 = .ok (.getfield 9, 3) := by decide +kernel
theorem dX4_readQuery_42 : decode cX4_readQuery 42 = .ok (.iconst 1, 1) := by decide +kernel
theorem dX4_readQuery_43 : decode cX4_readQuery 43 = .ok (.invokevirtual 53, 3) := by decide +kernel
theorem dX4_readQuery_46 : decode cX4_readQuery 46 = .ok (.aload_n 0, 1) := by decide +kernel
theorem dX4_readQuery_47 : decode cX4_readQuery 47 = .ok (.getfield 9, 3) := by decide +kernel
theorem dX4_readQuery_50 : decode cX4_readQuery 50 = .ok (.invokevirtual 56, 3) := by decide +kernel
theorem dX4_readQuery_53 : decode cX4_readQuery 53 = .ok (.aload_n 0, 1) := by decide +kernel
theorem dX4_readQuery_54 : decode cX4_readQuery 54 = .ok (.iconst 0, 1) := by decide +kernel
theorem dX4_readQuery_55 : decode cX4_readQuery 55 = .ok (.invokevirtual 59, 3) := by decide +kernel
theorem dX4_readQuery_58 : decode cX4_readQuery 58 = .ok (.lstore_n 3, 1) := by decide +kernel
theorem dX4_readQuery_59 : decode cX4_readQuery 59 = .ok (.aload_n 0, 1) := by decide +kernel
theorem dX4_readQuery_60 : decode cX4_readQuery 60 = .ok (.getfield 9, 3) := by decide +kernel
theorem dX4_readQuery_63 : decode cX4_readQuery 63 = .ok (.invokevirtual 63, 3) := by decide +kernel
theorem dX4_readQuery_66 : decode cX4_readQuery 66 = .ok (.iload_n 2, 1) := by decide +kernel
theorem dX4_readQuery_67 : decode cX4_readQuery 67 = .ok (.ifCond .eq 8, 3) := by decide +kernel
theorem dX4_readQuery_70 : decode cX4_readQuery 70 = .ok (.lload_n 3, 1) := by decide +kernel
theorem dX4_readQuery_71 : decode cX4_readQuery 71 = .ok (.invokestatic 66, 3) := by decide +kernel
theorem dX4_readQuery_74 : decode cX4_readQuery 74 = .ok (.ireturn, 1) := by decide +kernel
theorem dX4_readQuery_75 : decode cX4_readQuery 75 = .ok (.lload_n 3, 1) := by decide +kernel
theorem dX4_readQuery_76 : decode cX4_readQuery 76 = .ok (.lconst 0, 1) := by decide +kernel
theorem dX4_readQuery_77 : decode cX4_readQuery 77 = .ok (.lcmp, 1) := by decide +kernel
theorem dX4_readQuery_78 : decode cX4_readQuery 78 = .ok (.ifCond .ne 7, 3) := by decide +kernel
theorem dX4_readQuery_81 : decode cX4_readQuery 81 = .ok (.iconst (-1), 1) := by decide +kernel
theorem dX4_readQuery_82 : decode cX4_readQuery 82 = .ok (.goto 7, 3) := by decide +kernel
theorem dX4_readQuery_85 : decode cX4_readQuery 85 = .ok (.lload_n 3, 1) := by decide +kernel
theorem dX4_readQuery_86 : decode cX4_readQuery 86 = .ok (.invokestatic 72, 3) := by decide +kernel
theorem dX4_readQuery_89 : decode cX4_readQuery 89 = .ok (.ireturn, 1) := by decide +kernel
set_option maxRecDepth 100000 in
theorem t_X4_readQuery_46 (G : MG) (hG : (g_l G).stackTraces = false) (d : Nat) (hd : 32 ≤ d)    (σ : MsSt) (l0 : Nat) (l2 : Int32) (h0 : ms_kd l0 = 5) : TrO G mX4_readQuery d 0 0 0 0 ms_wi 46 [(0, .ref l0), (2, .int l2)] [] σ (f_X4_readQuery_46 σ l0 l2) := by
  show TrO G mX4_readQuery d 0 0 0 0 ms_wi 46 [(0, .ref l0), (2, .int l2)] [] σ ((f_X9_advance σ (ms_rf l0 0)).bind fun s4 => ms_b2 (f_X4_readTest (rec_X4_readFactor 7) s4 l0 0) fun v5 s6 => (f_X9_takeEnd s6 (ms_rf l0 0)).bind fun s7 => if l2 = 0 then if (lg_cmp v5 0) = 0 then some ((-1), s7) else (f_J13_numberOfTrailingZeros_95d88 s7 v5).bind fun v8 => some (v8, s7) else (f_J13_bitCount_95d88 s7 v5).bind fun v9 => some (v9, s7))
  refine tr_aload_n (i := 0) dX4_readQuery_46 rfl ?_
  refine tr_getR 4 h0 fl_X4_9 (by decide +kernel) dX4_readQuery_47 ?_
  refine tr_c_wv (ms_cV (rest := []) (al := []) 9 (sp_X9_advance G hG (d - 1) (by omega) σ (ms_rf l0 0) (rk_4_0 h0)) (rk_4_0 h0) (by decide +kernel) kl_X4_56 fv_X9_advance dX4_readQuery_50 (show _ = some 0 by decide +kernel) (by omega) (Nat.le_of_ble_eq_true rfl) (by decide) (by decide)) (fun s4 => ?_)
  refine tr_aload_n (i := 0) dX4_readQuery_53 rfl ?_
  refine tr_iconst (v := 0) dX4_readQuery_54 (by decide +kernel) ?_
  refine tr_d_wj (ms_cV (rest := []) (al := [.int 0]) 4 (sp_X4_readTest G hG (d - 1) (by omega) (rec_X4_readFactor 7) (d - 3) (by omega) (fun s x => rc_X4_readFactor G hG 7 (d - 3) (by omega) s x) s4 l0 0 h0) h0 (by decide +kernel) kl_X4_59 fv_X4_readTest dX4_readQuery_55 (show _ = some 1 by decide +kernel) (by omega) (Nat.le_of_ble_eq_true rfl) (by decide) (by decide)) (fun v5 s6 => ?_)
  refine tr_lstore_n (lv' := [(0, .ref l0), (2, .int l2), (3, .long v5)]) [1, 2, 0] dX4_readQuery_58 (by decide) rfl ?_
  refine tr_aload_n (i := 0) dX4_readQuery_59 rfl ?_
  refine tr_getR 4 h0 fl_X4_9 (by decide +kernel) dX4_readQuery_60 ?_
  refine tr_c_wv (ms_cV (rest := []) (al := []) 9 (sp_X9_takeEnd G hG (d - 1) (by omega) s6 (ms_rf l0 0) (rk_4_0 h0)) (rk_4_0 h0) (by decide +kernel) kl_X4_63 fv_X9_takeEnd dX4_readQuery_63 (show _ = some 0 by decide +kernel) (by omega) (Nat.le_of_ble_eq_true rfl) (by decide) (by decide)) (fun s7 => ?_)
  refine tr_iload_n (i := 1) dX4_readQuery_66 rfl ?_
  refine tr_ifeq (o := none) (tgt := 75) dX4_readQuery_67 (by decide) ?_ ?_
  · refine tr_lload_n (i := 2) dX4_readQuery_75 rfl ?_
    refine tr_lconst (v := 0) dX4_readQuery_76 (by decide +kernel) ?_
    refine tr_lcmp dX4_readQuery_77 ?_
    refine tr_ifne (o := none) (tgt := 85) dX4_readQuery_78 (by decide) ?_ ?_
    · refine tr_lload_n (i := 2) dX4_readQuery_85 rfl ?_
      refine tr_c_i (ms_cS (rest := []) (al := [.long v5]) (sp_J13_numberOfTrailingZeros_95d88 G hG (d - 1) (by omega) s7 v5) kl_X4_72 fs_J13_numberOfTrailingZeros_95d88 dX4_readQuery_86 (show _ = some 1 by decide +kernel) (by omega) (Nat.le_of_ble_eq_true rfl) (by decide) (by decide)) (fun v8 => ?_)
      exact tr_iret rfl rfl (by decide) (by decide) dX4_readQuery_89
    · refine tr_iconst (v := (-1)) dX4_readQuery_81 (by decide +kernel) ?_
      refine tr_goto (tgt := 89) dX4_readQuery_82 (by decide) ?_
      exact tr_iret rfl rfl (by decide) (by decide) dX4_readQuery_89
  · refine tr_lload_n (i := 2) dX4_readQuery_70 rfl ?_
    refine tr_c_i (ms_cS (rest := []) (al := [.long v5]) (sp_J13_bitCount_95d88 G hG (d - 1) (by omega) s7 v5) kl_X4_66 fs_J13_bitCount_95d88 dX4_readQuery_71 (show _ = some 1 by decide +kernel) (by omega) (Nat.le_of_ble_eq_true rfl) (by decide) (by decide)) (fun v9 => ?_)
    exact tr_iret rfl rfl (by decide) (by decide) dX4_readQuery_74
set_option maxRecDepth 100000 in
theorem sp_X4_readQuery (G : MG) (hG : (g_l G).stackTraces = false) (d : Nat) (hd : 32 ≤ d)   (σ : MsSt) (l0 : Nat) (l1 : Int32) (h0 : ms_kd l0 = 5) : MsSpec G mX4_readQuery d 0 0 [.ref l0, .int l1] σ ms_wi (f_X4_readQuery σ l0 l1) := by
  refine ms_start (by decide +kernel) rfl rfl (Nat.le_of_ble_eq_true rfl) ?_
  show TrO G mX4_readQuery d 0 0 0 0 ms_wi 0 [(0, .ref l0), (1, .int l1)] [] σ ((f_X4_tellLine σ l0).bind fun s1 => (f_X9_begin s1 (ms_rf l0 0) l1).bind fun s2 => (f_X9_isWord s2 (ms_rf l0 0) 619).bind fun v3 => if v3 = 0 then (f_X9_isWord s2 (ms_rf l0 0) 620).bind fun v10 => if v10 = 0 then (f_X9_fail s2 (ms_rf l0 0) 1).bind fun s11 => f_X4_readQuery_46 s11 l0 v3 else f_X4_readQuery_46 s2 l0 v3 else f_X4_readQuery_46 s2 l0 v3)
  refine tr_aload_n (i := 0) dX4_readQuery_0 rfl ?_
  refine tr_c_wv (ms_cV (rest := []) (al := []) 4 (sp_X4_tellLine G hG (d - 1) (by omega) σ l0 h0) h0 (by decide +kernel) kl_X4_37 fv_X4_tellLine dX4_readQuery_1 (show _ = some 0 by decide +kernel) (by omega) (Nat.le_of_ble_eq_true rfl) (by decide) (by decide)) (fun s1 => ?_)
  refine tr_aload_n (i := 0) dX4_readQuery_4 rfl ?_
  refine tr_getR 4 h0 fl_X4_9 (by decide +kernel) dX4_readQuery_5 ?_
  refine tr_iload_n (i := 1) dX4_readQuery_8 rfl ?_
  refine tr_c_wv (ms_cV (rest := []) (al := [.int l1]) 9 (sp_X9_begin G hG (d - 1) (by omega) s1 (ms_rf l0 0) l1 (rk_4_0 h0)) (rk_4_0 h0) (by decide +kernel) kl_X4_40 fv_X9_begin dX4_readQuery_9 (show _ = some 1 by decide +kernel) (by omega) (Nat.le_of_ble_eq_true rfl) (by decide) (by decide)) (fun s2 => ?_)
  refine tr_aload_n (i := 0) dX4_readQuery_12 rfl ?_
  refine tr_getR 4 h0 fl_X4_9 (by decide +kernel) dX4_readQuery_13 ?_
  refine tr_ldcs 19 (tx := "many") (by decide) (by decide +kernel) dX4_readQuery_16 ?_
  refine tr_c_i (ms_cV (rest := []) (al := [.ref 619]) 9 (sp_X9_isWord G hG (d - 1) (by omega) s2 (ms_rf l0 0) 619 (rk_4_0 h0) (⟨by decide, by decide⟩)) (rk_4_0 h0) (by decide +kernel) kl_X4_47 fv_X9_isWord dX4_readQuery_18 (show _ = some 1 by decide +kernel) (by omega) (Nat.le_of_ble_eq_true rfl) (by decide) (by decide)) (fun v3 => ?_)
  refine tr_istore_n (lv' := [(0, .ref l0), (2, .int v3)]) [1, 0] dX4_readQuery_21 (by decide) rfl ?_
  refine tr_iload_n (i := 1) dX4_readQuery_22 rfl ?_
  refine tr_ifne (o := none) (tgt := 46) dX4_readQuery_23 (by decide) ?_ ?_
  · exact t_X4_readQuery_46 G hG d hd s2 l0 v3 h0
  · refine tr_aload_n (i := 0) dX4_readQuery_26 rfl ?_
    refine tr_getR 4 h0 fl_X4_9 (by decide +kernel) dX4_readQuery_27 ?_
    refine tr_ldcs 20 (tx := "first") (by decide) (by decide +kernel) dX4_readQuery_30 ?_
    refine tr_c_i (ms_cV (rest := []) (al := [.ref 620]) 9 (sp_X9_isWord G hG (d - 1) (by omega) s2 (ms_rf l0 0) 620 (rk_4_0 h0) (⟨by decide, by decide⟩)) (rk_4_0 h0) (by decide +kernel) kl_X4_47 fv_X9_isWord dX4_readQuery_32 (show _ = some 1 by decide +kernel) (by omega) (Nat.le_of_ble_eq_true rfl) (by decide) (by decide)) (fun v10 => ?_)
    refine tr_ifne (o := none) (tgt := 46) dX4_readQuery_35 (by decide) ?_ ?_
    · exact t_X4_readQuery_46 G hG d hd s2 l0 v3 h0
    · refine tr_aload_n (i := 0) dX4_readQuery_38 rfl ?_
      refine tr_getR 4 h0 fl_X4_9 (by decide +kernel) dX4_readQuery_39 ?_
      refine tr_iconst (v := 1) dX4_readQuery_42 (by decide +kernel) ?_
      refine tr_c_wv (ms_cV (rest := []) (al := [.int 1]) 9 (sp_X9_fail G hG (d - 1) (by omega) s2 (ms_rf l0 0) 1 (rk_4_0 h0)) (rk_4_0 h0) (by decide +kernel) kl_X4_53 fv_X9_fail dX4_readQuery_43 (show _ = some 1 by decide +kernel) (by omega) (Nat.le_of_ble_eq_true rfl) (by decide) (by decide)) (fun s11 => ?_)
      exact t_X4_readQuery_46 G hG d hd s11 l0 v3 h0
