/-! X10: the bytecode does what the functions say (by program: wip/whole/gen) -/
theorem dX10_fullest_0 : decode cX10_fullest 0 = .ok (.aload_n 0, 1) := by decide +kernel
theorem dX10_fullest_1 : decode cX10_fullest 1 = .ok (.iload_n 1, 1) := by decide +kernel
theorem dX10_fullest_2 : decode cX10_fullest 2 = .ok (.invokevirtual 202, 3) := by decide +kernel
theorem dX10_fullest_5 : decode cX10_fullest 5 = .ok (.aload_n 0, 1) := by decide +kernel
theorem dX10_fullest_6 : decode cX10_fullest 6 = .ok (.getfield 60, 3) := by decide +kernel
theorem dX10_fullest_9 : decode cX10_fullest 9 = .ok (.aload_n 0, 1) := by decide +kernel
theorem dX10_fullest_10 : decode cX10_fullest 10 = .ok (.getfield 19, 3) := by decide +kernel
theorem dX10_fullest_13 : decode cX10_fullest 13 = .ok (.iload_n 1, 1) := by decide +kernel
theorem dX10_fullest_14 : decode cX10_fullest 14 = .ok (.invokevirtual 205, 3) := by decide +kernel
theorem dX10_fullest_17 : decode cX10_fullest 17 = .ok (.iconst (-1), 1) := by decide +kernel
theorem dX10_fullest_18 : decode cX10_fullest 18 = .ok (.invokevirtual 192, 3) := by decide +kernel
theorem dX10_fullest_21 : decode cX10_fullest 21 = .ok (.iconst (-1), 1) := by decide +kernel
theorem dX10_fullest_22 : decode cX10_fullest 22 = .ok (.istore_n 2, 1) := by decide +kernel
theorem dX10_fullest_23 : decode cX10_fullest 23 = .ok (.iconst (-1), 1) := by decide +kernel
theorem dX10_fullest_24 : decode cX10_fullest 24 = .ok (.istore_n 3, 1) := by decide +kernel
theorem dX10_fullest_25 : decode cX10_fullest 25 = .ok (.iconst 0, 1) := by decide +kernel
theorem dX10_fullest_26 : decode cX10_fullest 26 = .ok (.istore 4, 2) := by decide +kernel
theorem dX10_fullest_28 : decode cX10_fullest 28 = .ok (.iload 4, 2) := by decide +kernel
theorem dX10_fullest_30 : decode cX10_fullest 30 = .ok (.aload_n 0, 1) := by decide +kernel
theorem dX10_fullest_31 : decode cX10_fullest 31 = .ok (.getfield 60, 3) := by decide +kernel
theorem dX10_fullest_34 : decode cX10_fullest 34 = .ok (.getfield 218, 3) := by decide +kernel
theorem dX10_fullest_37 : decode cX10_fullest 37 = .ok (.getfield 209, 3) := by decide +kernel
theorem dX10_fullest_40 : decode cX10_fullest 40 = .ok (.if_icmp .ge 35, 3) := by decide +kernel
theorem dX10_fullest_43 : decode cX10_fullest 43 = .ok (.aload_n 0, 1) := by decide +kernel
theorem dX10_fullest_44 : decode cX10_fullest 44 = .ok (.getfield 60, 3) := by decide +kernel
theorem dX10_fullest_47 : decode cX10_fullest 47 = .ok (.iload 4, 2) := by decide +kernel
theorem dX10_fullest_49 : decode cX10_fullest 49 = .ok (.invokevirtual 255, 3) := by decide +kernel
theorem dX10_fullest_52 : decode cX10_fullest 52 = .ok (.iload_n 3, 1) := by decide +kernel
theorem dX10_fullest_53 : decode cX10_fullest 53 = .ok (.if_icmp .le 16, 3) := by decide +kernel
theorem dX10_fullest_56 : decode cX10_fullest 56 = .ok (.aload_n 0, 1) := by decide +kernel
theorem dX10_fullest_57 : decode cX10_fullest 57 = .ok (.getfield 60, 3) := by decide +kernel
theorem dX10_fullest_60 : decode cX10_fullest 60 = .ok (.iload 4, 2) := by decide +kernel
theorem dX10_fullest_62 : decode cX10_fullest 62 = .ok (.invokevirtual 255, 3) := by decide +kernel
theorem dX10_fullest_65 : decode cX10_fullest 65 = .ok (.istore_n 3, 1) := by decide +kernel
theorem dX10_fullest_66 : decode cX10_fullest 66 = .ok (.iload 4, 2) := by decide +kernel
theorem dX10_fullest_68 : decode cX10_fullest 68 = .ok (.istore_n 2, 1) := by decide +kernel
theorem dX10_fullest_69 : decode cX10_fullest 69 = .ok (.iinc 4 1, 3) := by decide +kernel
theorem dX10_fullest_72 : decode cX10_fullest 72 = .ok (.goto (-44), 3) := by decide +kernel
theorem dX10_fullest_75 : decode cX10_fullest 75 = .ok (.iload_n 2, 1) := by decide +kernel
theorem dX10_fullest_76 : decode cX10_fullest 76 = .ok (.ireturn, 1) := by decide +kernel
set_option maxRecDepth 100000 in
theorem t_X10_fullest_28 (G : MG) (hG : (g_l G).stackTraces = false) (d : Nat) (hd : 8 ≤ d)    : ∀ (n : Nat) (σ : MsSt) (l0 : Nat) (l2 : Int32) (l3 : Int32) (l4 : Int32) (h0 : ms_kd l0 = 11), TrO G mX10_fullest d 1 6 1 6 ms_ui 28 [(0, .ref l0), (2, .int l2), (3, .int l3), (4, .int l4)] [] σ (f_X10_fullest_28 n σ l0 l2 l3 l4) := by
  intro n
  induction n with
  | zero => exact fun _ _ _ _ _ _ => tr_none
  | succ n ih =>
    intro σ l0 l2 l3 l4 h0
    show TrO G mX10_fullest d 1 6 1 6 ms_ui 28 [(0, .ref l0), (2, .int l2), (3, .int l3), (4, .int l4)] [] σ (if l4 < (ms_i σ (ms_rf (ms_rf l0 6) 4) 1) then (f_X1_marksIn σ (ms_rf l0 6) l4).bind fun v4 => if l3 < v4 then (f_X1_marksIn σ (ms_rf l0 6) l4).bind fun v5 => (f_X10_fullest_28 n) σ l0 l4 v5 (l4 + 1) else (f_X10_fullest_28 n) σ l0 l2 l3 (l4 + 1) else some (.inl l2, σ))
    refine tr_iload (i := 3) dX10_fullest_28 rfl ?_
    refine tr_aload_n (i := 0) dX10_fullest_30 rfl ?_
    refine tr_getR 10 h0 fl_X10_60 (by decide +kernel) dX10_fullest_31 ?_
    refine tr_getR 1 (rk_10_6 h0) fl_X10_218 (by decide +kernel) dX10_fullest_34 ?_
    refine tr_getI 5 (rk_1_4 (rk_10_6 h0)) fl_X10_209 (by decide +kernel) dX10_fullest_37 ?_
    refine tr_icge (o := none) (tgt := 75) dX10_fullest_40 (by decide) ?_ ?_
    · refine tr_iload_n (i := 1) dX10_fullest_75 rfl ?_
      exact tr_iret rfl rfl (by decide) (by decide) dX10_fullest_76
    · refine tr_aload_n (i := 0) dX10_fullest_43 rfl ?_
      refine tr_getR 10 h0 fl_X10_60 (by decide +kernel) dX10_fullest_44 ?_
      refine tr_iload (i := 3) dX10_fullest_47 rfl ?_
      refine tr_c_i (ms_cV (rest := []) (al := [.int l4]) 1 (sp_X1_marksIn G hG (d - 1) (by omega) σ (ms_rf l0 6) l4 (rk_10_6 h0)) (rk_10_6 h0) (by decide +kernel) kl_X10_255 fv_X1_marksIn dX10_fullest_49 (show _ = some 1 by decide +kernel) (by omega) (Nat.le_of_ble_eq_true rfl) (by decide) (by decide)) (fun v4 => ?_)
      refine tr_iload_n (i := 2) dX10_fullest_52 rfl ?_
      refine tr_icle (o := none) (tgt := 69) dX10_fullest_53 (by decide) ?_ ?_
      · refine tr_iinc (k := 3) (v := (l4 + 1)) (lv' := [(0, .ref l0), (2, .int l2), (3, .int l3), (4, .int (l4 + 1))]) [1, 2, 3, 0] dX10_fullest_69 rfl rfl (by decide) rfl ?_
        refine tr_goto (tgt := 28) dX10_fullest_72 (by decide) ?_
        exact (fun s y0 y1 y2 y3 g0 => ih s y0 y1 y2 y3 g0) σ l0 l2 l3 (l4 + 1) h0
      · refine tr_aload_n (i := 0) dX10_fullest_56 rfl ?_
        refine tr_getR 10 h0 fl_X10_60 (by decide +kernel) dX10_fullest_57 ?_
        refine tr_iload (i := 3) dX10_fullest_60 rfl ?_
        refine tr_c_i (ms_cV (rest := []) (al := [.int l4]) 1 (sp_X1_marksIn G hG (d - 1) (by omega) σ (ms_rf l0 6) l4 (rk_10_6 h0)) (rk_10_6 h0) (by decide +kernel) kl_X10_255 fv_X1_marksIn dX10_fullest_62 (show _ = some 1 by decide +kernel) (by omega) (Nat.le_of_ble_eq_true rfl) (by decide) (by decide)) (fun v5 => ?_)
        refine tr_istore_n (lv' := [(0, .ref l0), (3, .int v5), (4, .int l4)]) [1, 0, 3] dX10_fullest_65 (by decide) rfl ?_
        refine tr_iload (i := 2) dX10_fullest_66 rfl ?_
        refine tr_istore_n (lv' := [(0, .ref l0), (2, .int l4), (3, .int v5), (4, .int l4)]) [1, 0, 2, 3] dX10_fullest_68 (by decide) rfl ?_
        refine tr_iinc (k := 3) (v := (l4 + 1)) (lv' := [(0, .ref l0), (2, .int l4), (3, .int v5), (4, .int (l4 + 1))]) [1, 2, 3, 0] dX10_fullest_69 rfl rfl (by decide) rfl ?_
        refine tr_goto (tgt := 28) dX10_fullest_72 (by decide) ?_
        exact (fun s y0 y1 y2 y3 g0 => ih s y0 y1 y2 y3 g0) σ l0 l4 v5 (l4 + 1) h0
set_option maxRecDepth 100000 in
theorem sp_X10_fullest (G : MG) (hG : (g_l G).stackTraces = false) (d : Nat) (hd : 8 ≤ d)   (σ : MsSt) (l0 : Nat) (l1 : Int32) (h0 : ms_kd l0 = 11) : MsSpec G mX10_fullest d 1 6 [.ref l0, .int l1] σ ms_ui (f_X10_fullest σ l0 l1) := by
  refine ms_start (by decide +kernel) rfl rfl (Nat.le_of_ble_eq_true rfl) ?_
  show TrO G mX10_fullest d 1 6 0 0 ms_ui 0 [(0, .ref l0), (1, .int l1)] [] σ (ms_bt (f_X10_needLine σ l0 l1) ((f_X6_lineAt σ (ms_rf l0 1) l1).bind fun v2 => (f_X1_derive σ (ms_rf l0 6) v2 (-1)).bind fun s3 => f_X10_fullest_28 ms_fuel s3 l0 (-1) (-1) 0) (fun e1 => some (.inr e1, σ)))
  refine tr_aload_n (i := 0) dX10_fullest_0 rfl ?_
  refine tr_iload_n (i := 1) dX10_fullest_1 rfl ?_
  refine tr_d_tv (ms_cV (rest := []) (al := [.int l1]) 10 (sp_X10_needLine G hG (d - 1) (by omega) σ l0 l1 h0) h0 (by decide +kernel) kl_X10_202 fv_X10_needLine dX10_fullest_2 (show _ = some 1 by decide +kernel) (by omega) (Nat.le_of_ble_eq_true rfl) (by decide) (by decide)) rfl (by decide) (by decide) ?_ (fun e0 r h => by cases h; rfl)
  refine tr_aload_n (i := 0) dX10_fullest_5 rfl ?_
  refine tr_getR 10 h0 fl_X10_60 (by decide +kernel) dX10_fullest_6 ?_
  refine tr_aload_n (i := 0) dX10_fullest_9 rfl ?_
  refine tr_getR 10 h0 fl_X10_19 (by decide +kernel) dX10_fullest_10 ?_
  refine tr_iload_n (i := 1) dX10_fullest_13 rfl ?_
  refine tr_c_a (ms_cV (rest := [.ref (ms_rf l0 6)]) (al := [.int l1]) 6 (sp_X6_lineAt G hG (d - 1) (by omega) σ (ms_rf l0 1) l1 (rk_10_1 h0)) (rk_10_1 h0) (by decide +kernel) kl_X10_205 fv_X6_lineAt dX10_fullest_14 (show _ = some 1 by decide +kernel) (by omega) (Nat.le_of_ble_eq_true rfl) (by decide) (by decide)) (fun v2 e_v2 => ?_)
  refine tr_iconst (v := (-1)) dX10_fullest_17 (by decide +kernel) ?_
  refine tr_c_wv (ms_cV (rest := []) (al := [.ref v2, .int (-1)]) 1 (sp_X1_derive G hG (d - 1) (by omega) σ (ms_rf l0 6) v2 (-1) (rk_10_6 h0) (ra_X6_lineAt (rk_10_1 h0) e_v2)) (rk_10_6 h0) (by decide +kernel) kl_X10_192 fv_X1_derive dX10_fullest_18 (show _ = some 2 by decide +kernel) (by omega) (Nat.le_of_ble_eq_true rfl) (by decide) (by decide)) (fun s3 => ?_)
  refine tr_iconst (v := (-1)) dX10_fullest_21 (by decide +kernel) ?_
  refine tr_istore_n (lv' := [(0, .ref l0), (2, .int (-1))]) [1, 0] dX10_fullest_22 (by decide) rfl ?_
  refine tr_iconst (v := (-1)) dX10_fullest_23 (by decide +kernel) ?_
  refine tr_istore_n (lv' := [(0, .ref l0), (2, .int (-1)), (3, .int (-1))]) [1, 2, 0] dX10_fullest_24 (by decide) rfl ?_
  refine tr_iconst (v := 0) dX10_fullest_25 (by decide +kernel) ?_
  refine tr_istore (lv' := [(0, .ref l0), (2, .int (-1)), (3, .int (-1)), (4, .int 0)]) [1, 2, 3, 0] dX10_fullest_26 (by decide) rfl ?_
  exact t_X10_fullest_28 G hG d hd ms_fuel s3 l0 (-1) (-1) 0 h0
theorem dX10_needBoth_0 : decode cX10_needBoth 0 = .ok (.aload_n 0, 1) := by decide +kernel
theorem dX10_needBoth_1 : decode cX10_needBoth 1 = .ok (.iload_n 1, 1) := by decide +kernel
theorem dX10_needBoth_2 : decode cX10_needBoth 2 = .ok (.invokevirtual 202, 3) := by decide +kernel
theorem dX10_needBoth_5 : decode cX10_needBoth 5 = .ok (.aload_n 0, 1) := by decide +kernel
theorem dX10_needBoth_6 : decode cX10_needBoth 6 = .ok (.iload_n 2, 1) := by decide +kernel
theorem dX10_needBoth_7 : decode cX10_needBoth 7 = .ok (.invokevirtual 202, 3) := by decide +kernel
theorem dX10_needBoth_10 : decode cX10_needBoth 10 = .ok (.aload_n 0, 1) := by decide +kernel
theorem dX10_needBoth_11 : decode cX10_needBoth 11 = .ok (.getfield 60, 3) := by decide +kernel
theorem dX10_needBoth_14 : decode cX10_needBoth 14 = .ok (.aload_n 0, 1) := by decide +kernel
theorem dX10_needBoth_15 : decode cX10_needBoth 15 = .ok (.getfield 19, 3) := by decide +kernel
theorem dX10_needBoth_18 : decode cX10_needBoth 18 = .ok (.iload_n 1, 1) := by decide +kernel
theorem dX10_needBoth_19 : decode cX10_needBoth 19 = .ok (.invokevirtual 205, 3) := by decide +kernel
theorem dX10_needBoth_22 : decode cX10_needBoth 22 = .ok (.iconst (-1), 1) := by decide +kernel
theorem dX10_needBoth_23 : decode cX10_needBoth 23 = .ok (.invokevirtual 192, 3) := by decide +kernel
theorem dX10_needBoth_26 : decode cX10_needBoth 26 = .ok (.aload_n 0, 1) := by decide +kernel
theorem dX10_needBoth_27 : decode cX10_needBoth 27 = .ok (.getfield 64, 3) := by decide +kernel
theorem dX10_needBoth_30 : decode cX10_needBoth 30 = .ok (.aload_n 0, 1) := by decide +kernel
theorem dX10_needBoth_31 : decode cX10_needBoth 31 = .ok (.getfield 19, 3) := by decide +kernel
theorem dX10_needBoth_34 : decode cX10_needBoth 34 = .ok (.iload_n 2, 1) := by decide +kernel
theorem dX10_needBoth_35 : decode cX10_needBoth 35 = .ok (.invokevirtual 205, 3) := by decide +kernel
theorem dX10_needBoth_38 : decode cX10_needBoth 38 = .ok (.iconst (-1), 1) := by decide +kernel
theorem dX10_needBoth_39 : decode cX10_needBoth 39 = .ok (.invokevirtual 192, 3) := by decide +kernel
theorem dX10_needBoth_42 : decode cX10_needBoth 42 = .ok (.return_, 1) := by decide +kernel
set_option maxRecDepth 100000 in
theorem sp_X10_needBoth (G : MG) (hG : (g_l G).stackTraces = false) (d : Nat) (hd : 8 ≤ d)   (σ : MsSt) (l0 : Nat) (l1 : Int32) (l2 : Int32) (h0 : ms_kd l0 = 11) : MsSpec G mX10_needBoth d 2 12 [.ref l0, .int l1, .int l2] σ ms_uv (f_X10_needBoth σ l0 l1 l2) := by
  refine ms_start (by decide +kernel) rfl rfl (Nat.le_of_ble_eq_true rfl) ?_
  show TrO G mX10_needBoth d 2 12 0 0 ms_uv 0 [(0, .ref l0), (1, .int l1), (2, .int l2)] [] σ (ms_bt (f_X10_needLine σ l0 l1) (ms_bt (f_X10_needLine σ l0 l2) ((f_X6_lineAt σ (ms_rf l0 1) l1).bind fun v3 => (f_X1_derive σ (ms_rf l0 6) v3 (-1)).bind fun s4 => (f_X6_lineAt s4 (ms_rf l0 1) l2).bind fun v5 => (f_X1_derive s4 (ms_rf l0 7) v5 (-1)).bind fun s6 => some (none, s6)) (fun e2 => some (some e2, σ))) (fun e1 => some (some e1, σ)))
  refine tr_aload_n (i := 0) dX10_needBoth_0 rfl ?_
  refine tr_iload_n (i := 1) dX10_needBoth_1 rfl ?_
  refine tr_d_tv (ms_cV (rest := []) (al := [.int l1]) 10 (sp_X10_needLine G hG (d - 1) (by omega) σ l0 l1 h0) h0 (by decide +kernel) kl_X10_202 fv_X10_needLine dX10_needBoth_2 (show _ = some 1 by decide +kernel) (by omega) (Nat.le_of_ble_eq_true rfl) (by decide) (by decide)) rfl (by decide) (by decide) ?_ (fun e0 r h => by cases h; rfl)
  refine tr_aload_n (i := 0) dX10_needBoth_5 rfl ?_
  refine tr_iload_n (i := 2) dX10_needBoth_6 rfl ?_
  refine tr_d_tv (ms_cV (rest := []) (al := [.int l2]) 10 (sp_X10_needLine G hG (d - 1) (by omega) σ l0 l2 h0) h0 (by decide +kernel) kl_X10_202 fv_X10_needLine dX10_needBoth_7 (show _ = some 1 by decide +kernel) (by omega) (Nat.le_of_ble_eq_true rfl) (by decide) (by decide)) rfl (by decide) (by decide) ?_ (fun e0 r h => by cases h; rfl)
  refine tr_aload_n (i := 0) dX10_needBoth_10 rfl ?_
  refine tr_getR 10 h0 fl_X10_60 (by decide +kernel) dX10_needBoth_11 ?_
  refine tr_aload_n (i := 0) dX10_needBoth_14 rfl ?_
  refine tr_getR 10 h0 fl_X10_19 (by decide +kernel) dX10_needBoth_15 ?_
  refine tr_iload_n (i := 1) dX10_needBoth_18 rfl ?_
  refine tr_c_a (ms_cV (rest := [.ref (ms_rf l0 6)]) (al := [.int l1]) 6 (sp_X6_lineAt G hG (d - 1) (by omega) σ (ms_rf l0 1) l1 (rk_10_1 h0)) (rk_10_1 h0) (by decide +kernel) kl_X10_205 fv_X6_lineAt dX10_needBoth_19 (show _ = some 1 by decide +kernel) (by omega) (Nat.le_of_ble_eq_true rfl) (by decide) (by decide)) (fun v3 e_v3 => ?_)
  refine tr_iconst (v := (-1)) dX10_needBoth_22 (by decide +kernel) ?_
  refine tr_c_wv (ms_cV (rest := []) (al := [.ref v3, .int (-1)]) 1 (sp_X1_derive G hG (d - 1) (by omega) σ (ms_rf l0 6) v3 (-1) (rk_10_6 h0) (ra_X6_lineAt (rk_10_1 h0) e_v3)) (rk_10_6 h0) (by decide +kernel) kl_X10_192 fv_X1_derive dX10_needBoth_23 (show _ = some 2 by decide +kernel) (by omega) (Nat.le_of_ble_eq_true rfl) (by decide) (by decide)) (fun s4 => ?_)
  refine tr_aload_n (i := 0) dX10_needBoth_26 rfl ?_
  refine tr_getR 10 h0 fl_X10_64 (by decide +kernel) dX10_needBoth_27 ?_
  refine tr_aload_n (i := 0) dX10_needBoth_30 rfl ?_
  refine tr_getR 10 h0 fl_X10_19 (by decide +kernel) dX10_needBoth_31 ?_
  refine tr_iload_n (i := 2) dX10_needBoth_34 rfl ?_
  refine tr_c_a (ms_cV (rest := [.ref (ms_rf l0 7)]) (al := [.int l2]) 6 (sp_X6_lineAt G hG (d - 1) (by omega) s4 (ms_rf l0 1) l2 (rk_10_1 h0)) (rk_10_1 h0) (by decide +kernel) kl_X10_205 fv_X6_lineAt dX10_needBoth_35 (show _ = some 1 by decide +kernel) (by omega) (Nat.le_of_ble_eq_true rfl) (by decide) (by decide)) (fun v5 e_v5 => ?_)
  refine tr_iconst (v := (-1)) dX10_needBoth_38 (by decide +kernel) ?_
  refine tr_c_wv (ms_cV (rest := []) (al := [.ref v5, .int (-1)]) 1 (sp_X1_derive G hG (d - 1) (by omega) s4 (ms_rf l0 7) v5 (-1) (rk_10_7 h0) (ra_X6_lineAt (rk_10_1 h0) e_v5)) (rk_10_7 h0) (by decide +kernel) kl_X10_192 fv_X1_derive dX10_needBoth_39 (show _ = some 2 by decide +kernel) (by omega) (Nat.le_of_ble_eq_true rfl) (by decide) (by decide)) (fun s6 => ?_)
  exact tr_vret rfl rfl (by decide) (by decide) dX10_needBoth_42
theorem dX10_compare_0 : decode cX10_compare 0 = .ok (.aload_n 0, 1) := by decide +kernel
theorem dX10_compare_1 : decode cX10_compare 1 = .ok (.iload_n 1, 1) := by decide +kernel
theorem dX10_compare_2 : decode cX10_compare 2 = .ok (.iload_n 2, 1) := by decide +kernel
theorem dX10_compare_3 : decode cX10_compare 3 = .ok (.invokevirtual 297, 3) := by decide +kernel
theorem dX10_compare_6 : decode cX10_compare 6 = .ok (.aload_n 0, 1) := by decide +kernel
theorem dX10_compare_7 : decode cX10_compare 7 = .ok (.getfield 60, 3) := by decide +kernel
theorem dX10_compare_10 : decode cX10_compare 10 = .ok (.getfield 212, 3) := by decide +kernel
theorem dX10_compare_13 : decode cX10_compare 13 = .ok (.astore_n 3, 1) := by decide +kernel
theorem dX10_compare_14 : decode cX10_compare 14 = .ok (.aload_n 0, 1) := by decide +kernel
theorem dX10_compare_15 : decode cX10_compare 15 = .ok (.getfield 64, 3) := by decide +kernel
theorem dX10_compare_18 : decode cX10_compare 18 = .ok (.getfield 212, 3) := by decide +kernel
theorem dX10_compare_21 : decode cX10_compare 21 = .ok (.astore 4, 2) := by decide +kernel
theorem dX10_compare_23 : decode cX10_compare 23 = .ok (.aload_n 3, 1) := by decide +kernel
theorem dX10_compare_24 : decode cX10_compare 24 = .ok (.aload 4, 2) := by decide +kernel
theorem dX10_compare_26 : decode cX10_compare 26 = .ok (.invokevirtual 237, 3) := by decide +kernel
theorem dX10_compare_29 : decode cX10_compare 29 = .ok (.istore 5, 2) := by decide +kernel
theorem dX10_compare_31 : decode cX10_compare 31 = .ok (.iload 5, 2) := by decide +kernel
theorem dX10_compare_33 : decode cX10_compare 33 = .ok (.iconst (-1), 1) := by decide +kernel
theorem dX10_compare_34 : decode cX10_compare 34 = .ok (.if_icmp .ne 5, 3) := by decide +kernel
theorem dX10_compare_37 : decode cX10_compare 37 = .ok (.iconst 0, 1) := by decide +kernel
theorem dX10_compare_38 : decode cX10_compare 38 = .ok (.ireturn, 1) := by decide +kernel
theorem dX10_compare_39 : decode cX10_compare 39 = .ok (.aload_n 3, 1) := by decide +kernel
theorem dX10_compare_40 : decode cX10_compare 40 = .ok (.iload 5, 2) := by decide +kernel
theorem dX10_compare_42 : decode cX10_compare 42 = .ok (.invokevirtual 199, 3) := by decide +kernel
theorem dX10_compare_45 : decode cX10_compare 45 = .ok (.aload 4, 2) := by decide +kernel
theorem dX10_compare_47 : decode cX10_compare 47 = .ok (.iload 5, 2) := by decide +kernel
theorem dX10_compare_49 : decode cX10_compare 49 = .ok (.invokevirtual 199, 3) := by decide +kernel
theorem dX10_compare_52 : decode cX10_compare 52 = .ok (.if_icmp .ge 7, 3) := by decide +kernel
theorem dX10_compare_55 : decode cX10_compare 55 = .ok (.iconst (-1), 1) := by decide +kernel
theorem dX10_compare_56 : decode cX10_compare 56 = .ok (.goto 4, 3) := by decide +kernel
theorem dX10_compare_59 : decode cX10_compare 59 = .ok (.iconst 1, 1) := by decide +kernel
theorem dX10_compare_60 : decode cX10_compare 60 = .ok (.ireturn, 1) := by decide +kernel
set_option maxRecDepth 100000 in
theorem sp_X10_compare (G : MG) (hG : (g_l G).stackTraces = false) (d : Nat) (hd : 9 ≤ d)   (σ : MsSt) (l0 : Nat) (l1 : Int32) (l2 : Int32) (h0 : ms_kd l0 = 11) : MsSpec G mX10_compare d 2 12 [.ref l0, .int l1, .int l2] σ ms_ui (f_X10_compare σ l0 l1 l2) := by
  refine ms_start (by decide +kernel) rfl rfl (Nat.le_of_ble_eq_true rfl) ?_
  show TrO G mX10_compare d 2 12 0 0 ms_ui 0 [(0, .ref l0), (1, .int l1), (2, .int l2)] [] σ (ms_bu (f_X10_needBoth σ l0 l1 l2) (fun s2 => (f_X5_firstUnlike s2 (ms_rf (ms_rf l0 6) 2) (ms_rf (ms_rf l0 7) 2)).bind fun v3 => if v3 = (-1) then some (.inl 0, s2) else (f_X5_get s2 (ms_rf (ms_rf l0 6) 2) v3).bind fun v4 => (f_X5_get s2 (ms_rf (ms_rf l0 7) 2) v3).bind fun v5 => if v4 < v5 then some (.inl (-1), s2) else some (.inl 1, s2)) (fun e1 s2 => some (.inr e1, s2)))
  refine tr_aload_n (i := 0) dX10_compare_0 rfl ?_
  refine tr_iload_n (i := 1) dX10_compare_1 rfl ?_
  refine tr_iload_n (i := 2) dX10_compare_2 rfl ?_
  refine tr_d_uv (ms_cV (rest := []) (al := [.int l1, .int l2]) 10 (sp_X10_needBoth G hG (d - 1) (by omega) σ l0 l1 l2 h0) h0 (by decide +kernel) kl_X10_297 fv_X10_needBoth dX10_compare_3 (show _ = some 2 by decide +kernel) (by omega) (Nat.le_of_ble_eq_true rfl) (by decide) (by decide)) rfl (by decide) (by decide) (fun s2 => ?_) (fun e0 s0 r h => by cases h; rfl)
  refine tr_aload_n (i := 0) dX10_compare_6 rfl ?_
  refine tr_getR 10 h0 fl_X10_60 (by decide +kernel) dX10_compare_7 ?_
  refine tr_getR 1 (rk_10_6 h0) fl_X10_212 (by decide +kernel) dX10_compare_10 ?_
  refine tr_astore_n (lv' := [(0, .ref l0), (3, .ref (ms_rf (ms_rf l0 6) 2))]) [1, 0] dX10_compare_13 (by decide) rfl ?_
  refine tr_aload_n (i := 0) dX10_compare_14 rfl ?_
  refine tr_getR 10 h0 fl_X10_64 (by decide +kernel) dX10_compare_15 ?_
  refine tr_getR 1 (rk_10_7 h0) fl_X10_212 (by decide +kernel) dX10_compare_18 ?_
  refine tr_astore (lv' := [(3, .ref (ms_rf (ms_rf l0 6) 2)), (4, .ref (ms_rf (ms_rf l0 7) 2))]) [2, 0] dX10_compare_21 (by decide) rfl ?_
  refine tr_aload_n (i := 0) dX10_compare_23 rfl ?_
  refine tr_aload (i := 1) dX10_compare_24 rfl ?_
  refine tr_c_i (ms_cV (rest := []) (al := [.ref (ms_rf (ms_rf l0 7) 2)]) 5 (sp_X5_firstUnlike G hG (d - 1) (by omega) s2 (ms_rf (ms_rf l0 6) 2) (ms_rf (ms_rf l0 7) 2) (rk_1_2 (rk_10_6 h0)) (rk_1_2 (rk_10_7 h0))) (rk_1_2 (rk_10_6 h0)) (by decide +kernel) kl_X10_237 fv_X5_firstUnlike dX10_compare_26 (show _ = some 1 by decide +kernel) (by omega) (Nat.le_of_ble_eq_true rfl) (by decide) (by decide)) (fun v3 => ?_)
  refine tr_istore (lv' := [(3, .ref (ms_rf (ms_rf l0 6) 2)), (4, .ref (ms_rf (ms_rf l0 7) 2)), (5, .int v3)]) [1, 2, 0] dX10_compare_29 (by decide) rfl ?_
  refine tr_iload (i := 2) dX10_compare_31 rfl ?_
  refine tr_iconst (v := (-1)) dX10_compare_33 (by decide +kernel) ?_
  refine tr_icne (o := none) (tgt := 39) dX10_compare_34 (by decide) ?_ ?_
  · refine tr_aload_n (i := 0) dX10_compare_39 rfl ?_
    refine tr_iload (i := 2) dX10_compare_40 rfl ?_
    refine tr_c_i (ms_cV (rest := []) (al := [.int v3]) 5 (sp_X5_get G hG (d - 1) (by omega) s2 (ms_rf (ms_rf l0 6) 2) v3 (rk_1_2 (rk_10_6 h0))) (rk_1_2 (rk_10_6 h0)) (by decide +kernel) kl_X10_199 fv_X5_get dX10_compare_42 (show _ = some 1 by decide +kernel) (by omega) (Nat.le_of_ble_eq_true rfl) (by decide) (by decide)) (fun v4 => ?_)
    refine tr_aload (i := 1) dX10_compare_45 rfl ?_
    refine tr_iload (i := 2) dX10_compare_47 rfl ?_
    refine tr_c_i (ms_cV (rest := [.int v4]) (al := [.int v3]) 5 (sp_X5_get G hG (d - 1) (by omega) s2 (ms_rf (ms_rf l0 7) 2) v3 (rk_1_2 (rk_10_7 h0))) (rk_1_2 (rk_10_7 h0)) (by decide +kernel) kl_X10_199 fv_X5_get dX10_compare_49 (show _ = some 1 by decide +kernel) (by omega) (Nat.le_of_ble_eq_true rfl) (by decide) (by decide)) (fun v5 => ?_)
    refine tr_icge (o := none) (tgt := 59) dX10_compare_52 (by decide) ?_ ?_
    · refine tr_iconst (v := 1) dX10_compare_59 (by decide +kernel) ?_
      exact tr_iret rfl rfl (by decide) (by decide) dX10_compare_60
    · refine tr_iconst (v := (-1)) dX10_compare_55 (by decide +kernel) ?_
      refine tr_goto (tgt := 60) dX10_compare_56 (by decide) ?_
      exact tr_iret rfl rfl (by decide) (by decide) dX10_compare_60
  · refine tr_iconst (v := 0) dX10_compare_37 (by decide +kernel) ?_
    exact tr_iret rfl rfl (by decide) (by decide) dX10_compare_38
theorem dX10_areBare_0 : decode cX10_areBare 0 = .ok (.aload_n 0, 1) := by decide +kernel
theorem dX10_areBare_1 : decode cX10_areBare 1 = .ok (.iload_n 1, 1) := by decide +kernel
theorem dX10_areBare_2 : decode cX10_areBare 2 = .ok (.iload_n 2, 1) := by decide +kernel
theorem dX10_areBare_3 : decode cX10_areBare 3 = .ok (.invokevirtual 297, 3) := by decide +kernel
theorem dX10_areBare_6 : decode cX10_areBare 6 = .ok (.aload_n 0, 1) := by decide +kernel
theorem dX10_areBare_7 : decode cX10_areBare 7 = .ok (.getfield 60, 3) := by decide +kernel
theorem dX10_areBare_10 : decode cX10_areBare 10 = .ok (.getfield 218, 3) := by decide +kernel
theorem dX10_areBare_13 : decode cX10_areBare 13 = .ok (.getfield 209, 3) := by decide +kernel
theorem dX10_areBare_16 : decode cX10_areBare 16 = .ok (.aload_n 0, 1) := by decide +kernel
theorem dX10_areBare_17 : decode cX10_areBare 17 = .ok (.getfield 64, 3) := by decide +kernel
theorem dX10_areBare_20 : decode cX10_areBare 20 = .ok (.getfield 218, 3) := by decide +kernel
theorem dX10_areBare_23 : decode cX10_areBare 23 = .ok (.getfield 209, 3) := by decide +kernel
theorem dX10_areBare_26 : decode cX10_areBare 26 = .ok (.if_icmp .ne 23, 3) := by decide +kernel
theorem dX10_areBare_29 : decode cX10_areBare 29 = .ok (.aload_n 0, 1) := by decide +kernel
theorem dX10_areBare_30 : decode cX10_areBare 30 = .ok (.getfield 60, 3) := by decide +kernel
theorem dX10_areBare_33 : decode cX10_areBare 33 = .ok (.aload_n 0, 1) := by decide +kernel
theorem dX10_areBare_34 : decode cX10_areBare 34 = .ok (.getfield 64, 3) := by decide +kernel
theorem dX10_areBare_37 : decode cX10_areBare 37 = .ok (.iconst 1, 1) := by decide +kernel
theorem dX10_areBare_38 : decode cX10_areBare 38 = .ok (.iconst 0, 1) := by decide +kernel
theorem dX10_areBare_39 : decode cX10_areBare 39 = .ok (.invokevirtual 300, 3) := by decide +kernel
theorem dX10_areBare_42 : decode cX10_areBare 42 = .ok (.ifCond .eq 7, 3) := by decide +kernel
theorem dX10_areBare_45 : decode cX10_areBare 45 = .ok (.iconst 1, 1) := by decide +kernel
theorem dX10_areBare_46 : decode cX10_areBare 46 = .ok (.goto 4, 3) := by decide +kernel
theorem dX10_areBare_49 : decode cX10_areBare 49 = .ok (.iconst 0, 1) := by decide +kernel
theorem dX10_areBare_50 : decode cX10_areBare 50 = .ok (.ireturn, 1) := by decide +kernel
set_option maxRecDepth 100000 in
theorem sp_X10_areBare (G : MG) (hG : (g_l G).stackTraces = false) (d : Nat) (hd : 9 ≤ d)   (σ : MsSt) (l0 : Nat) (l1 : Int32) (l2 : Int32) (h0 : ms_kd l0 = 11) : MsSpec G mX10_areBare d 2 12 [.ref l0, .int l1, .int l2] σ ms_ui (f_X10_areBare σ l0 l1 l2) := by
  refine ms_start (by decide +kernel) rfl rfl (Nat.le_of_ble_eq_true rfl) ?_
  show TrO G mX10_areBare d 2 12 0 0 ms_ui 0 [(0, .ref l0), (1, .int l1), (2, .int l2)] [] σ (ms_bu (f_X10_needBoth σ l0 l1 l2) (fun s2 => if (ms_i s2 (ms_rf (ms_rf l0 6) 4) 1) = (ms_i s2 (ms_rf (ms_rf l0 7) 4) 1) then (f_X1_isFoundAt s2 (ms_rf l0 6) (ms_rf l0 7) 1 0).bind fun v3 => if v3 = 0 then some (.inl 0, s2) else some (.inl 1, s2) else some (.inl 0, s2)) (fun e1 s2 => some (.inr e1, s2)))
  refine tr_aload_n (i := 0) dX10_areBare_0 rfl ?_
  refine tr_iload_n (i := 1) dX10_areBare_1 rfl ?_
  refine tr_iload_n (i := 2) dX10_areBare_2 rfl ?_
  refine tr_d_uv (ms_cV (rest := []) (al := [.int l1, .int l2]) 10 (sp_X10_needBoth G hG (d - 1) (by omega) σ l0 l1 l2 h0) h0 (by decide +kernel) kl_X10_297 fv_X10_needBoth dX10_areBare_3 (show _ = some 2 by decide +kernel) (by omega) (Nat.le_of_ble_eq_true rfl) (by decide) (by decide)) rfl (by decide) (by decide) (fun s2 => ?_) (fun e0 s0 r h => by cases h; rfl)
  refine tr_aload_n (i := 0) dX10_areBare_6 rfl ?_
  refine tr_getR 10 h0 fl_X10_60 (by decide +kernel) dX10_areBare_7 ?_
  refine tr_getR 1 (rk_10_6 h0) fl_X10_218 (by decide +kernel) dX10_areBare_10 ?_
  refine tr_getI 5 (rk_1_4 (rk_10_6 h0)) fl_X10_209 (by decide +kernel) dX10_areBare_13 ?_
  refine tr_aload_n (i := 0) dX10_areBare_16 rfl ?_
  refine tr_getR 10 h0 fl_X10_64 (by decide +kernel) dX10_areBare_17 ?_
  refine tr_getR 1 (rk_10_7 h0) fl_X10_218 (by decide +kernel) dX10_areBare_20 ?_
  refine tr_getI 5 (rk_1_4 (rk_10_7 h0)) fl_X10_209 (by decide +kernel) dX10_areBare_23 ?_
  refine tr_icne (o := none) (tgt := 49) dX10_areBare_26 (by decide) ?_ ?_
  · refine tr_iconst (v := 0) dX10_areBare_49 (by decide +kernel) ?_
    exact tr_zret rfl (by decide +kernel) rfl (by decide) (by decide) dX10_areBare_50
  · refine tr_aload_n (i := 0) dX10_areBare_29 rfl ?_
    refine tr_getR 10 h0 fl_X10_60 (by decide +kernel) dX10_areBare_30 ?_
    refine tr_aload_n (i := 0) dX10_areBare_33 rfl ?_
    refine tr_getR 10 h0 fl_X10_64 (by decide +kernel) dX10_areBare_34 ?_
    refine tr_iconst (v := 1) dX10_areBare_37 (by decide +kernel) ?_
    refine tr_iconst (v := 0) dX10_areBare_38 (by decide +kernel) ?_
    refine tr_c_i (ms_cV (rest := []) (al := [.ref (ms_rf l0 7), .int 1, .int 0]) 1 (sp_X1_isFoundAt G hG (d - 1) (by omega) s2 (ms_rf l0 6) (ms_rf l0 7) 1 0 (rk_10_6 h0) (rk_10_7 h0)) (rk_10_6 h0) (by decide +kernel) kl_X10_300 fv_X1_isFoundAt dX10_areBare_39 (show _ = some 3 by decide +kernel) (by omega) (Nat.le_of_ble_eq_true rfl) (by decide) (by decide)) (fun v3 => ?_)
    refine tr_ifeq (o := none) (tgt := 49) dX10_areBare_42 (by decide) ?_ ?_
    · refine tr_iconst (v := 0) dX10_areBare_49 (by decide +kernel) ?_
      exact tr_zret rfl (by decide +kernel) rfl (by decide) (by decide) dX10_areBare_50
    · refine tr_iconst (v := 1) dX10_areBare_45 (by decide +kernel) ?_
      refine tr_goto (tgt := 50) dX10_areBare_46 (by decide) ?_
      exact tr_zret rfl (by decide +kernel) rfl (by decide) (by decide) dX10_areBare_50
theorem dX10_matches_0 : decode cX10_matches 0 = .ok (.aload_n 0, 1) := by decide +kernel
theorem dX10_matches_1 : decode cX10_matches 1 = .ok (.iload_n 1, 1) := by decide +kernel
theorem dX10_matches_2 : decode cX10_matches 2 = .ok (.iload_n 2, 1) := by decide +kernel
theorem dX10_matches_3 : decode cX10_matches 3 = .ok (.invokevirtual 297, 3) := by decide +kernel
theorem dX10_matches_6 : decode cX10_matches 6 = .ok (.aload_n 0, 1) := by decide +kernel
theorem dX10_matches_7 : decode cX10_matches 7 = .ok (.getfield 64, 3) := by decide +kernel
theorem dX10_matches_10 : decode cX10_matches 10 = .ok (.getfield 218, 3) := by decide +kernel
theorem dX10_matches_13 : decode cX10_matches 13 = .ok (.getfield 209, 3) := by decide +kernel
theorem dX10_matches_16 : decode cX10_matches 16 = .ok (.iconst 1, 1) := by decide +kernel
theorem dX10_matches_17 : decode cX10_matches 17 = .ok (.bipush 60, 2) := by decide +kernel
theorem dX10_matches_19 : decode cX10_matches 19 = .ok (.invokestatic 128, 3) := by decide +kernel
theorem dX10_matches_22 : decode cX10_matches 22 = .ok (.iconst 0, 1) := by decide +kernel
theorem dX10_matches_23 : decode cX10_matches 23 = .ok (.istore 4, 2) := by decide +kernel
theorem dX10_matches_25 : decode cX10_matches 25 = .ok (.iconst 0, 1) := by decide +kernel
theorem dX10_matches_26 : decode cX10_matches 26 = .ok (.istore 5, 2) := by decide +kernel
theorem dX10_matches_28 : decode cX10_matches 28 = .ok (.iload 5, 2) := by decide +kernel
theorem dX10_matches_30 : decode cX10_matches 30 = .ok (.aload_n 0, 1) := by decide +kernel
theorem dX10_matches_31 : decode cX10_matches 31 = .ok (.getfield 60, 3) := by decide +kernel
theorem dX10_matches_34 : decode cX10_matches 34 = .ok (.getfield 218, 3) := by decide +kernel
theorem dX10_matches_37 : decode cX10_matches 37 = .ok (.getfield 209, 3) := by decide +kernel
theorem dX10_matches_40 : decode cX10_matches 40 = .ok (.if_icmp .ge 29, 3) := by decide +kernel
theorem dX10_matches_43 : decode cX10_matches 43 = .ok (.aload_n 0, 1) := by decide +kernel
theorem dX10_matches_44 : decode cX10_matches 44 = .ok (.getfield 60, 3) := by decide +kernel
theorem dX10_matches_47 : decode cX10_matches 47 = .ok (.aload_n 0, 1) := by decide +kernel
theorem dX10_matches_48 : decode cX10_matches 48 = .ok (.getfield 64, 3) := by decide +kernel
theorem dX10_matches_51 : decode cX10_matches 51 = .ok (.iload_n 3, 1) := by decide +kernel
theorem dX10_matches_52 : decode cX10_matches 52 = .ok (.iload 5, 2) := by decide +kernel
theorem dX10_matches_54 : decode cX10_matches 54 = .ok (.invokevirtual 300, 3) := by decide +kernel
theorem dX10_matches_57 : decode cX10_matches 57 = .ok (.ifCond .eq 6, 3) := by decide +kernel
theorem dX10_matches_60 : decode cX10_matches 60 = .ok (.iinc 4 1, 3) := by decide +kernel
theorem dX10_matches_63 : decode cX10_matches 63 = .ok (.iinc 5 1, 3) := by decide +kernel
theorem dX10_matches_66 : decode cX10_matches 66 = .ok (.goto (-38), 3) := by decide +kernel
theorem dX10_matches_69 : decode cX10_matches 69 = .ok (.iload 4, 2) := by decide +kernel
theorem dX10_matches_71 : decode cX10_matches 71 = .ok (.ireturn, 1) := by decide +kernel
set_option maxRecDepth 100000 in
theorem t_X10_matches_28 (G : MG) (hG : (g_l G).stackTraces = false) (d : Nat) (hd : 9 ≤ d)    : ∀ (n : Nat) (σ : MsSt) (l0 : Nat) (l3 : Int32) (l4 : Int32) (l5 : Int32) (h0 : ms_kd l0 = 11), TrO G mX10_matches d 3 18 3 18 ms_ui 28 [(0, .ref l0), (3, .int l3), (4, .int l4), (5, .int l5)] [] σ (f_X10_matches_28 n σ l0 l3 l4 l5) := by
  intro n
  induction n with
  | zero => exact fun _ _ _ _ _ _ => tr_none
  | succ n ih =>
    intro σ l0 l3 l4 l5 h0
    show TrO G mX10_matches d 3 18 3 18 ms_ui 28 [(0, .ref l0), (3, .int l3), (4, .int l4), (5, .int l5)] [] σ (if l5 < (ms_i σ (ms_rf (ms_rf l0 6) 4) 1) then (f_X1_isFoundAt σ (ms_rf l0 6) (ms_rf l0 7) l3 l5).bind fun v4 => if v4 = 0 then (f_X10_matches_28 n) σ l0 l3 l4 (l5 + 1) else (f_X10_matches_28 n) σ l0 l3 (l4 + 1) (l5 + 1) else some (.inl l4, σ))
    refine tr_iload (i := 3) dX10_matches_28 rfl ?_
    refine tr_aload_n (i := 0) dX10_matches_30 rfl ?_
    refine tr_getR 10 h0 fl_X10_60 (by decide +kernel) dX10_matches_31 ?_
    refine tr_getR 1 (rk_10_6 h0) fl_X10_218 (by decide +kernel) dX10_matches_34 ?_
    refine tr_getI 5 (rk_1_4 (rk_10_6 h0)) fl_X10_209 (by decide +kernel) dX10_matches_37 ?_
    refine tr_icge (o := none) (tgt := 69) dX10_matches_40 (by decide) ?_ ?_
    · refine tr_iload (i := 2) dX10_matches_69 rfl ?_
      exact tr_iret rfl rfl (by decide) (by decide) dX10_matches_71
    · refine tr_aload_n (i := 0) dX10_matches_43 rfl ?_
      refine tr_getR 10 h0 fl_X10_60 (by decide +kernel) dX10_matches_44 ?_
      refine tr_aload_n (i := 0) dX10_matches_47 rfl ?_
      refine tr_getR 10 h0 fl_X10_64 (by decide +kernel) dX10_matches_48 ?_
      refine tr_iload_n (i := 1) dX10_matches_51 rfl ?_
      refine tr_iload (i := 3) dX10_matches_52 rfl ?_
      refine tr_c_i (ms_cV (rest := []) (al := [.ref (ms_rf l0 7), .int l3, .int l5]) 1 (sp_X1_isFoundAt G hG (d - 1) (by omega) σ (ms_rf l0 6) (ms_rf l0 7) l3 l5 (rk_10_6 h0) (rk_10_7 h0)) (rk_10_6 h0) (by decide +kernel) kl_X10_300 fv_X1_isFoundAt dX10_matches_54 (show _ = some 3 by decide +kernel) (by omega) (Nat.le_of_ble_eq_true rfl) (by decide) (by decide)) (fun v4 => ?_)
      refine tr_ifeq (o := none) (tgt := 63) dX10_matches_57 (by decide) ?_ ?_
      · refine tr_iinc (k := 3) (v := (l5 + 1)) (lv' := [(0, .ref l0), (3, .int l3), (4, .int l4), (5, .int (l5 + 1))]) [1, 2, 3, 0] dX10_matches_63 rfl rfl (by decide) rfl ?_
        refine tr_goto (tgt := 28) dX10_matches_66 (by decide) ?_
        exact (fun s y0 y1 y2 y3 g0 => ih s y0 y1 y2 y3 g0) σ l0 l3 l4 (l5 + 1) h0
      · refine tr_iinc (k := 2) (v := (l4 + 1)) (lv' := [(0, .ref l0), (3, .int l3), (4, .int (l4 + 1)), (5, .int l5)]) [1, 2, 0, 3] dX10_matches_60 rfl rfl (by decide) rfl ?_
        refine tr_iinc (k := 3) (v := (l5 + 1)) (lv' := [(0, .ref l0), (3, .int l3), (4, .int (l4 + 1)), (5, .int (l5 + 1))]) [1, 2, 3, 0] dX10_matches_63 rfl rfl (by decide) rfl ?_
        refine tr_goto (tgt := 28) dX10_matches_66 (by decide) ?_
        exact (fun s y0 y1 y2 y3 g0 => ih s y0 y1 y2 y3 g0) σ l0 l3 (l4 + 1) (l5 + 1) h0
set_option maxRecDepth 100000 in
theorem sp_X10_matches (G : MG) (hG : (g_l G).stackTraces = false) (d : Nat) (hd : 9 ≤ d)   (σ : MsSt) (l0 : Nat) (l1 : Int32) (l2 : Int32) (l3 : Int32) (h0 : ms_kd l0 = 11) : MsSpec G mX10_matches d 3 18 [.ref l0, .int l1, .int l2, .int l3] σ ms_ui (f_X10_matches σ l0 l1 l2 l3) := by
  refine ms_start (by decide +kernel) rfl rfl (Nat.le_of_ble_eq_true rfl) ?_
  show TrO G mX10_matches d 3 18 0 0 ms_ui 0 [(0, .ref l0), (1, .int l1), (2, .int l2), (3, .int l3)] [] σ (ms_bu (f_X10_needBoth σ l0 l1 l2) (fun s2 => ms_bt (f_X10_needIn s2 (ms_i s2 (ms_rf (ms_rf l0 7) 4) 1) 1 60) (f_X10_matches_28 ms_fuel s2 l0 l3 0 0) (fun e3 => some (.inr e3, s2))) (fun e1 s2 => some (.inr e1, s2)))
  refine tr_aload_n (i := 0) dX10_matches_0 rfl ?_
  refine tr_iload_n (i := 1) dX10_matches_1 rfl ?_
  refine tr_iload_n (i := 2) dX10_matches_2 rfl ?_
  refine tr_d_uv (ms_cV (rest := []) (al := [.int l1, .int l2]) 10 (sp_X10_needBoth G hG (d - 1) (by omega) σ l0 l1 l2 h0) h0 (by decide +kernel) kl_X10_297 fv_X10_needBoth dX10_matches_3 (show _ = some 2 by decide +kernel) (by omega) (Nat.le_of_ble_eq_true rfl) (by decide) (by decide)) rfl (by decide) (by decide) (fun s2 => ?_) (fun e0 s0 r h => by cases h; rfl)
  refine tr_aload_n (i := 0) dX10_matches_6 rfl ?_
  refine tr_getR 10 h0 fl_X10_64 (by decide +kernel) dX10_matches_7 ?_
  refine tr_getR 1 (rk_10_7 h0) fl_X10_218 (by decide +kernel) dX10_matches_10 ?_
  refine tr_getI 5 (rk_1_4 (rk_10_7 h0)) fl_X10_209 (by decide +kernel) dX10_matches_13 ?_
  refine tr_iconst (v := 1) dX10_matches_16 (by decide +kernel) ?_
  refine tr_bipush (v := 60) dX10_matches_17 (by decide +kernel) ?_
  refine tr_d_tv (ms_cS (rest := []) (al := [.int (ms_i s2 (ms_rf (ms_rf l0 7) 4) 1), .int 1, .int 60]) (sp_X10_needIn G hG (d - 1) (by omega) s2 (ms_i s2 (ms_rf (ms_rf l0 7) 4) 1) 1 60) kl_X10_128 fs_X10_needIn dX10_matches_19 (show _ = some 3 by decide +kernel) (by omega) (Nat.le_of_ble_eq_true rfl) (by decide) (by decide)) rfl (by decide) (by decide) ?_ (fun e0 r h => by cases h; rfl)
  refine tr_iconst (v := 0) dX10_matches_22 (by decide +kernel) ?_
  refine tr_istore (lv' := [(0, .ref l0), (3, .int l3), (4, .int 0)]) [1, 4, 0] dX10_matches_23 (by decide) rfl ?_
  refine tr_iconst (v := 0) dX10_matches_25 (by decide +kernel) ?_
  refine tr_istore (lv' := [(0, .ref l0), (3, .int l3), (4, .int 0), (5, .int 0)]) [1, 2, 3, 0] dX10_matches_26 (by decide) rfl ?_
  exact t_X10_matches_28 G hG d hd ms_fuel s2 l0 l3 0 0 h0
theorem dX10_match_0 : decode cX10_match 0 = .ok (.aload_n 0, 1) := by decide +kernel
theorem dX10_match_1 : decode cX10_match 1 = .ok (.iload_n 1, 1) := by decide +kernel
theorem dX10_match_2 : decode cX10_match 2 = .ok (.iload_n 2, 1) := by decide +kernel
theorem dX10_match_3 : decode cX10_match 3 = .ok (.invokevirtual 297, 3) := by decide +kernel
theorem dX10_match_6 : decode cX10_match 6 = .ok (.aload_n 0, 1) := by decide +kernel
theorem dX10_match_7 : decode cX10_match 7 = .ok (.getfield 64, 3) := by decide +kernel
theorem dX10_match_10 : decode cX10_match 10 = .ok (.getfield 218, 3) := by decide +kernel
theorem dX10_match_13 : decode cX10_match 13 = .ok (.getfield 209, 3) := by decide +kernel
theorem dX10_match_16 : decode cX10_match 16 = .ok (.iconst 1, 1) := by decide +kernel
theorem dX10_match_17 : decode cX10_match 17 = .ok (.bipush 60, 2) := by decide +kernel
theorem dX10_match_19 : decode cX10_match 19 = .ok (.invokestatic 128, 3) := by decide +kernel
theorem dX10_match_22 : decode cX10_match 22 = .ok (.iconst 0, 1) := by decide +kernel
theorem dX10_match_23 : decode cX10_match 23 = .ok (.istore 5, 2) := by decide +kernel
theorem dX10_match_25 : decode cX10_match 25 = .ok (.iconst 0, 1) := by decide +kernel
theorem dX10_match_26 : decode cX10_match 26 = .ok (.istore 6, 2) := by decide +kernel
theorem dX10_match_28 : decode cX10_match 28 = .ok (.iload 6, 2) := by decide +kernel
theorem dX10_match_30 : decode cX10_match 30 = .ok (.aload_n 0, 1) := by decide +kernel
theorem dX10_match_31 : decode cX10_match 31 = .ok (.getfield 60, 3) := by decide +kernel
theorem dX10_match_34 : decode cX10_match 34 = .ok (.getfield 218, 3) := by decide +kernel
theorem dX10_match_37 : decode cX10_match 37 = .ok (.getfield 209, 3) := by decide +kernel
theorem dX10_match_40 : decode cX10_match 40 = .ok (.if_icmp .ge 39, 3) := by decide +kernel
theorem dX10_match_43 : decode cX10_match 43 = .ok (.aload_n 0, 1) := by decide +kernel
theorem dX10_match_44 : decode cX10_match 44 = .ok (.getfield 60, 3) := by decide +kernel
theorem dX10_match_47 : decode cX10_match 47 = .ok (.aload_n 0, 1) := by decide +kernel
theorem dX10_match_48 : decode cX10_match 48 = .ok (.getfield 64, 3) := by decide +kernel
theorem dX10_match_51 : decode cX10_match 51 = .ok (.iload_n 3, 1) := by decide +kernel
theorem dX10_match_52 : decode cX10_match 52 = .ok (.iload 6, 2) := by decide +kernel
theorem dX10_match_54 : decode cX10_match 54 = .ok (.invokevirtual 300, 3) := by decide +kernel
theorem dX10_match_57 : decode cX10_match 57 = .ok (.ifCond .eq 16, 3) := by decide +kernel
theorem dX10_match_60 : decode cX10_match 60 = .ok (.iload 5, 2) := by decide +kernel
theorem dX10_match_62 : decode cX10_match 62 = .ok (.iload 4, 2) := by decide +kernel
theorem dX10_match_64 : decode cX10_match 64 = .ok (.if_icmp .ne 6, 3) := by decide +kernel
theorem dX10_match_67 : decode cX10_match 67 = .ok (.iload 6, 2) := by decide +kernel
theorem dX10_match_69 : decode cX10_match 69 = .ok (.ireturn, 1) := by decide +kernel
theorem dX10_match_70 : decode cX10_match 70 = .ok (.iinc 5 1, 3) := by decide +kernel
theorem dX10_match_73 : decode cX10_match 73 = .ok (.iinc 6 1, 3) := by decide +kernel
theorem dX10_match_76 : decode cX10_match 76 = .ok (.goto (-48), 3) := by decide +kernel
theorem dX10_match_79 : decode cX10_match 79 = .ok (.new 163, 3) := by decide +kernel
theorem dX10_match_82 : decode cX10_match 82 = .ok (.dup, 1) := by decide +kernel
theorem dX10_match_83 : decode cX10_match 83 = .ok (.ldc_w 304, 3) := by decide +kernel
theorem dX10_match_86 : decode cX10_match 86 = .ok (.invokespecial 167, 3) := by decide +kernel
theorem dX10_match_89 : decode cX10_match 89 = .ok (.athrow, 1) := by decide +kernel
set_option maxRecDepth 100000 in
theorem t_X10_match_28 (G : MG) (hG : (g_l G).stackTraces = false) (d : Nat) (hd : 9 ≤ d)    : ∀ (n : Nat) (σ : MsSt) (l0 : Nat) (l3 : Int32) (l4 : Int32) (l5 : Int32) (l6 : Int32) (h0 : ms_kd l0 = 11), TrO G mX10_match d 4 24 3 18 ms_ui 28 [(0, .ref l0), (3, .int l3), (4, .int l4), (5, .int l5), (6, .int l6)] [] σ (f_X10_match_28 n σ l0 l3 l4 l5 l6) := by
  intro n
  induction n with
  | zero => exact fun _ _ _ _ _ _ _ => tr_none
  | succ n ih =>
    intro σ l0 l3 l4 l5 l6 h0
    show TrO G mX10_match d 4 24 3 18 ms_ui 28 [(0, .ref l0), (3, .int l3), (4, .int l4), (5, .int l5), (6, .int l6)] [] σ (if l6 < (ms_i σ (ms_rf (ms_rf l0 6) 4) 1) then (f_X1_isFoundAt σ (ms_rf l0 6) (ms_rf l0 7) l3 l6).bind fun v4 => if v4 = 0 then (f_X10_match_28 n) σ l0 l3 l4 l5 (l6 + 1) else if l5 = l4 then some (.inl l6, σ) else (f_X10_match_28 n) σ l0 l3 l4 (l5 + 1) (l6 + 1) else some (.inr 0, σ))
    refine tr_iload (i := 4) dX10_match_28 rfl ?_
    refine tr_aload_n (i := 0) dX10_match_30 rfl ?_
    refine tr_getR 10 h0 fl_X10_60 (by decide +kernel) dX10_match_31 ?_
    refine tr_getR 1 (rk_10_6 h0) fl_X10_218 (by decide +kernel) dX10_match_34 ?_
    refine tr_getI 5 (rk_1_4 (rk_10_6 h0)) fl_X10_209 (by decide +kernel) dX10_match_37 ?_
    refine tr_icge (o := none) (tgt := 79) dX10_match_40 (by decide) ?_ ?_
    · exact tr_throwX (rest := []) 0 true hG th_X10_163_304 rfl rfl (by decide) (by decide) (by omega) (Nat.le_of_ble_eq_true rfl) dX10_match_79 dX10_match_82 dX10_match_83 dX10_match_86 dX10_match_89
    · refine tr_aload_n (i := 0) dX10_match_43 rfl ?_
      refine tr_getR 10 h0 fl_X10_60 (by decide +kernel) dX10_match_44 ?_
      refine tr_aload_n (i := 0) dX10_match_47 rfl ?_
      refine tr_getR 10 h0 fl_X10_64 (by decide +kernel) dX10_match_48 ?_
      refine tr_iload_n (i := 1) dX10_match_51 rfl ?_
      refine tr_iload (i := 4) dX10_match_52 rfl ?_
      refine tr_c_i (ms_cV (rest := []) (al := [.ref (ms_rf l0 7), .int l3, .int l6]) 1 (sp_X1_isFoundAt G hG (d - 1) (by omega) σ (ms_rf l0 6) (ms_rf l0 7) l3 l6 (rk_10_6 h0) (rk_10_7 h0)) (rk_10_6 h0) (by decide +kernel) kl_X10_300 fv_X1_isFoundAt dX10_match_54 (show _ = some 3 by decide +kernel) (by omega) (Nat.le_of_ble_eq_true rfl) (by decide) (by decide)) (fun v4 => ?_)
      refine tr_ifeq (o := none) (tgt := 73) dX10_match_57 (by decide) ?_ ?_
      · refine tr_iinc (k := 4) (v := (l6 + 1)) (lv' := [(0, .ref l0), (3, .int l3), (4, .int l4), (5, .int l5), (6, .int (l6 + 1))]) [1, 2, 3, 4, 0] dX10_match_73 rfl rfl (by decide) rfl ?_
        refine tr_goto (tgt := 28) dX10_match_76 (by decide) ?_
        exact (fun s y0 y1 y2 y3 y4 g0 => ih s y0 y1 y2 y3 y4 g0) σ l0 l3 l4 l5 (l6 + 1) h0
      · refine tr_iload (i := 3) dX10_match_60 rfl ?_
        refine tr_iload (i := 2) dX10_match_62 rfl ?_
        refine tr_icne (o := none) (tgt := 70) dX10_match_64 (by decide) ?_ ?_
        · refine tr_iinc (k := 3) (v := (l5 + 1)) (lv' := [(0, .ref l0), (3, .int l3), (4, .int l4), (5, .int (l5 + 1)), (6, .int l6)]) [1, 2, 3, 0, 4] dX10_match_70 rfl rfl (by decide) rfl ?_
          refine tr_iinc (k := 4) (v := (l6 + 1)) (lv' := [(0, .ref l0), (3, .int l3), (4, .int l4), (5, .int (l5 + 1)), (6, .int (l6 + 1))]) [1, 2, 3, 4, 0] dX10_match_73 rfl rfl (by decide) rfl ?_
          refine tr_goto (tgt := 28) dX10_match_76 (by decide) ?_
          exact (fun s y0 y1 y2 y3 y4 g0 => ih s y0 y1 y2 y3 y4 g0) σ l0 l3 l4 (l5 + 1) (l6 + 1) h0
        · refine tr_iload (i := 4) dX10_match_67 rfl ?_
          exact tr_iret rfl rfl (by decide) (by decide) dX10_match_69
set_option maxRecDepth 100000 in
theorem sp_X10_match (G : MG) (hG : (g_l G).stackTraces = false) (d : Nat) (hd : 9 ≤ d)   (σ : MsSt) (l0 : Nat) (l1 : Int32) (l2 : Int32) (l3 : Int32) (l4 : Int32) (h0 : ms_kd l0 = 11) : MsSpec G mX10_match d 4 24 [.ref l0, .int l1, .int l2, .int l3, .int l4] σ ms_ui (f_X10_match σ l0 l1 l2 l3 l4) := by
  refine ms_start (by decide +kernel) rfl rfl (Nat.le_of_ble_eq_true rfl) ?_
  show TrO G mX10_match d 4 24 0 0 ms_ui 0 [(0, .ref l0), (1, .int l1), (2, .int l2), (3, .int l3), (4, .int l4)] [] σ (ms_bu (f_X10_needBoth σ l0 l1 l2) (fun s2 => ms_bt (f_X10_needIn s2 (ms_i s2 (ms_rf (ms_rf l0 7) 4) 1) 1 60) (f_X10_match_28 ms_fuel s2 l0 l3 l4 0 0) (fun e3 => some (.inr e3, s2))) (fun e1 s2 => some (.inr e1, s2)))
  refine tr_aload_n (i := 0) dX10_match_0 rfl ?_
  refine tr_iload_n (i := 1) dX10_match_1 rfl ?_
  refine tr_iload_n (i := 2) dX10_match_2 rfl ?_
  refine tr_d_uv (ms_cV (rest := []) (al := [.int l1, .int l2]) 10 (sp_X10_needBoth G hG (d - 1) (by omega) σ l0 l1 l2 h0) h0 (by decide +kernel) kl_X10_297 fv_X10_needBoth dX10_match_3 (show _ = some 2 by decide +kernel) (by omega) (Nat.le_of_ble_eq_true rfl) (by decide) (by decide)) rfl (by decide) (by decide) (fun s2 => ?_) (fun e0 s0 r h => by cases h; rfl)
  refine tr_aload_n (i := 0) dX10_match_6 rfl ?_
  refine tr_getR 10 h0 fl_X10_64 (by decide +kernel) dX10_match_7 ?_
  refine tr_getR 1 (rk_10_7 h0) fl_X10_218 (by decide +kernel) dX10_match_10 ?_
  refine tr_getI 5 (rk_1_4 (rk_10_7 h0)) fl_X10_209 (by decide +kernel) dX10_match_13 ?_
  refine tr_iconst (v := 1) dX10_match_16 (by decide +kernel) ?_
  refine tr_bipush (v := 60) dX10_match_17 (by decide +kernel) ?_
  refine tr_d_tv (ms_cS (rest := []) (al := [.int (ms_i s2 (ms_rf (ms_rf l0 7) 4) 1), .int 1, .int 60]) (sp_X10_needIn G hG (d - 1) (by omega) s2 (ms_i s2 (ms_rf (ms_rf l0 7) 4) 1) 1 60) kl_X10_128 fs_X10_needIn dX10_match_19 (show _ = some 3 by decide +kernel) (by omega) (Nat.le_of_ble_eq_true rfl) (by decide) (by decide)) rfl (by decide) (by decide) ?_ (fun e0 r h => by cases h; rfl)
  refine tr_iconst (v := 0) dX10_match_22 (by decide +kernel) ?_
  refine tr_istore (lv' := [(0, .ref l0), (3, .int l3), (4, .int l4), (5, .int 0)]) [1, 4, 5, 0] dX10_match_23 (by decide) rfl ?_
  refine tr_iconst (v := 0) dX10_match_25 (by decide +kernel) ?_
  refine tr_istore (lv' := [(0, .ref l0), (3, .int l3), (4, .int l4), (5, .int 0), (6, .int 0)]) [1, 2, 3, 4, 0] dX10_match_26 (by decide) rfl ?_
  exact t_X10_match_28 G hG d hd ms_fuel s2 l0 l3 l4 0 0 h0
theorem dX10_saved_0 : decode cX10_saved 0 = .ok (.aload_n 0, 1) := by decide +kernel
theorem dX10_saved_1 : decode cX10_saved 1 = .ok (.iload_n 1, 1) := by decide +kernel
theorem dX10_saved_2 : decode cX10_saved 2 = .ok (.invokevirtual 202, 3) := by decide +kernel
theorem dX10_saved_5 : decode cX10_saved 5 = .ok (.aload_n 0, 1) := by decide +kernel
theorem dX10_saved_6 : decode cX10_saved 6 = .ok (.iload_n 2, 1) := by decide +kernel
theorem dX10_saved_7 : decode cX10_saved 7 = .ok (.invokevirtual 145, 3) := by decide +kernel
theorem dX10_saved_10 : decode cX10_saved 10 = .ok (.aload_n 0, 1) := by decide +kernel
theorem dX10_saved_11 : decode cX10_saved 11 = .ok (.getfield 19, 3) := by decide +kernel
theorem dX10_saved_14 : decode cX10_saved 14 = .ok (.iload_n 2, 1) := by decide +kernel
theorem dX10_saved_15 : decode cX10_saved 15 = .ok (.invokevirtual 306, 3) := by decide +kernel
theorem dX10_saved_18 : decode cX10_saved 18 = .ok (.iconst 2, 1) := by decide +kernel
theorem dX10_saved_19 : decode cX10_saved 19 = .ok (.iconst 2, 1) := by decide +kernel
theorem dX10_saved_20 : decode cX10_saved 20 = .ok (.invokestatic 128, 3) := by decide +kernel
theorem dX10_saved_23 : decode cX10_saved 23 = .ok (.aload_n 0, 1) := by decide +kernel
theorem dX10_saved_24 : decode cX10_saved 24 = .ok (.getfield 19, 3) := by decide +kernel
theorem dX10_saved_27 : decode cX10_saved 27 = .ok (.iload_n 1, 1) := by decide +kernel
theorem dX10_saved_28 : decode cX10_saved 28 = .ok (.invokevirtual 205, 3) := by decide +kernel
theorem dX10_saved_31 : decode cX10_saved 31 = .ok (.astore_n 3, 1) := by decide +kernel
theorem dX10_saved_32 : decode cX10_saved 32 = .ok (.aload_n 0, 1) := by decide +kernel
theorem dX10_saved_33 : decode cX10_saved 33 = .ok (.getfield 60, 3) := by decide +kernel
theorem dX10_saved_36 : decode cX10_saved 36 = .ok (.aload_n 3, 1) := by decide +kernel
theorem dX10_saved_37 : decode cX10_saved 37 = .ok (.iconst (-1), 1) := by decide +kernel
theorem dX10_saved_38 : decode cX10_saved 38 = .ok (.invokevirtual 192, 3) := by decide +kernel
theorem dX10_saved_41 : decode cX10_saved 41 = .ok (.aload_n 0, 1) := by decide +kernel
theorem dX10_saved_42 : decode cX10_saved 42 = .ok (.getfield 64, 3) := by decide +kernel
theorem dX10_saved_45 : decode cX10_saved 45 = .ok (.aload_n 3, 1) := by decide +kernel
theorem dX10_saved_46 : decode cX10_saved 46 = .ok (.iload_n 2, 1) := by decide +kernel
theorem dX10_saved_47 : decode cX10_saved 47 = .ok (.invokevirtual 192, 3) := by decide +kernel
theorem dX10_saved_50 : decode cX10_saved 50 = .ok (.aload_n 0, 1) := by decide +kernel
theorem dX10_saved_51 : decode cX10_saved 51 = .ok (.getfield 60, 3) := by decide +kernel
theorem dX10_saved_54 : decode cX10_saved 54 = .ok (.getfield 196, 3) := by decide +kernel
theorem dX10_saved_57 : decode cX10_saved 57 = .ok (.getfield 209, 3) := by decide +kernel
theorem dX10_saved_60 : decode cX10_saved 60 = .ok (.aload_n 0, 1) := by decide +kernel
theorem dX10_saved_61 : decode cX10_saved 61 = .ok (.getfield 64, 3) := by decide +kernel
theorem dX10_saved_64 : decode cX10_saved 64 = .ok (.getfield 196, 3) := by decide +kernel
theorem dX10_saved_67 : decode cX10_saved 67 = .ok (.getfield 209, 3) := by decide +kernel
theorem dX10_saved_70 : decode cX10_saved 70 = .ok (.isub, 1) := by decide +kernel
theorem dX10_saved_71 : decode cX10_saved 71 = .ok (.ireturn, 1) := by decide +kernel
set_option maxRecDepth 100000 in
theorem sp_X10_saved (G : MG) (hG : (g_l G).stackTraces = false) (d : Nat) (hd : 8 ≤ d)   (σ : MsSt) (l0 : Nat) (l1 : Int32) (l2 : Int32) (h0 : ms_kd l0 = 11) : MsSpec G mX10_saved d 3 18 [.ref l0, .int l1, .int l2] σ ms_ui (f_X10_saved σ l0 l1 l2) := by
  refine ms_start (by decide +kernel) rfl rfl (Nat.le_of_ble_eq_true rfl) ?_
  show TrO G mX10_saved d 3 18 0 0 ms_ui 0 [(0, .ref l0), (1, .int l1), (2, .int l2)] [] σ (ms_bt (f_X10_needLine σ l0 l1) (ms_bt (f_X10_needSign σ l0 l2) ((f_X6_kindOf σ (ms_rf l0 1) l2).bind fun v3 => ms_bt (f_X10_needIn σ v3 2 2) ((f_X6_lineAt σ (ms_rf l0 1) l1).bind fun v5 => (f_X1_derive σ (ms_rf l0 6) v5 (-1)).bind fun s6 => (f_X1_derive s6 (ms_rf l0 7) v5 l2).bind fun s7 => some (.inl ((ms_i s7 (ms_rf (ms_rf l0 6) 3) 1) - (ms_i s7 (ms_rf (ms_rf l0 7) 3) 1)), s7)) (fun e4 => some (.inr e4, σ))) (fun e2 => some (.inr e2, σ))) (fun e1 => some (.inr e1, σ)))
  refine tr_aload_n (i := 0) dX10_saved_0 rfl ?_
  refine tr_iload_n (i := 1) dX10_saved_1 rfl ?_
  refine tr_d_tv (ms_cV (rest := []) (al := [.int l1]) 10 (sp_X10_needLine G hG (d - 1) (by omega) σ l0 l1 h0) h0 (by decide +kernel) kl_X10_202 fv_X10_needLine dX10_saved_2 (show _ = some 1 by decide +kernel) (by omega) (Nat.le_of_ble_eq_true rfl) (by decide) (by decide)) rfl (by decide) (by decide) ?_ (fun e0 r h => by cases h; rfl)
  refine tr_aload_n (i := 0) dX10_saved_5 rfl ?_
  refine tr_iload_n (i := 2) dX10_saved_6 rfl ?_
  refine tr_d_tv (ms_cV (rest := []) (al := [.int l2]) 10 (sp_X10_needSign G hG (d - 1) (by omega) σ l0 l2 h0) h0 (by decide +kernel) kl_X10_145 fv_X10_needSign dX10_saved_7 (show _ = some 1 by decide +kernel) (by omega) (Nat.le_of_ble_eq_true rfl) (by decide) (by decide)) rfl (by decide) (by decide) ?_ (fun e0 r h => by cases h; rfl)
  refine tr_aload_n (i := 0) dX10_saved_10 rfl ?_
  refine tr_getR 10 h0 fl_X10_19 (by decide +kernel) dX10_saved_11 ?_
  refine tr_iload_n (i := 2) dX10_saved_14 rfl ?_
  refine tr_c_i (ms_cV (rest := []) (al := [.int l2]) 6 (sp_X6_kindOf G hG (d - 1) (by omega) σ (ms_rf l0 1) l2 (rk_10_1 h0)) (rk_10_1 h0) (by decide +kernel) kl_X10_306 fv_X6_kindOf dX10_saved_15 (show _ = some 1 by decide +kernel) (by omega) (Nat.le_of_ble_eq_true rfl) (by decide) (by decide)) (fun v3 => ?_)
  refine tr_iconst (v := 2) dX10_saved_18 (by decide +kernel) ?_
  refine tr_iconst (v := 2) dX10_saved_19 (by decide +kernel) ?_
  refine tr_d_tv (ms_cS (rest := []) (al := [.int v3, .int 2, .int 2]) (sp_X10_needIn G hG (d - 1) (by omega) σ v3 2 2) kl_X10_128 fs_X10_needIn dX10_saved_20 (show _ = some 3 by decide +kernel) (by omega) (Nat.le_of_ble_eq_true rfl) (by decide) (by decide)) rfl (by decide) (by decide) ?_ (fun e0 r h => by cases h; rfl)
  refine tr_aload_n (i := 0) dX10_saved_23 rfl ?_
  refine tr_getR 10 h0 fl_X10_19 (by decide +kernel) dX10_saved_24 ?_
  refine tr_iload_n (i := 1) dX10_saved_27 rfl ?_
  refine tr_c_a (ms_cV (rest := []) (al := [.int l1]) 6 (sp_X6_lineAt G hG (d - 1) (by omega) σ (ms_rf l0 1) l1 (rk_10_1 h0)) (rk_10_1 h0) (by decide +kernel) kl_X10_205 fv_X6_lineAt dX10_saved_28 (show _ = some 1 by decide +kernel) (by omega) (Nat.le_of_ble_eq_true rfl) (by decide) (by decide)) (fun v5 e_v5 => ?_)
  refine tr_astore_n (lv' := [(0, .ref l0), (2, .int l2), (3, .ref v5)]) [1, 3, 0] dX10_saved_31 (by decide) rfl ?_
  refine tr_aload_n (i := 0) dX10_saved_32 rfl ?_
  refine tr_getR 10 h0 fl_X10_60 (by decide +kernel) dX10_saved_33 ?_
  refine tr_aload_n (i := 2) dX10_saved_36 rfl ?_
  refine tr_iconst (v := (-1)) dX10_saved_37 (by decide +kernel) ?_
  refine tr_c_wv (ms_cV (rest := []) (al := [.ref v5, .int (-1)]) 1 (sp_X1_derive G hG (d - 1) (by omega) σ (ms_rf l0 6) v5 (-1) (rk_10_6 h0) (ra_X6_lineAt (rk_10_1 h0) e_v5)) (rk_10_6 h0) (by decide +kernel) kl_X10_192 fv_X1_derive dX10_saved_38 (show _ = some 2 by decide +kernel) (by omega) (Nat.le_of_ble_eq_true rfl) (by decide) (by decide)) (fun s6 => ?_)
  refine tr_aload_n (i := 0) dX10_saved_41 rfl ?_
  refine tr_getR 10 h0 fl_X10_64 (by decide +kernel) dX10_saved_42 ?_
  refine tr_aload_n (i := 2) dX10_saved_45 rfl ?_
  refine tr_iload_n (i := 1) dX10_saved_46 rfl ?_
  refine tr_c_wv (ms_cV (rest := []) (al := [.ref v5, .int l2]) 1 (sp_X1_derive G hG (d - 1) (by omega) s6 (ms_rf l0 7) v5 l2 (rk_10_7 h0) (ra_X6_lineAt (rk_10_1 h0) e_v5)) (rk_10_7 h0) (by decide +kernel) kl_X10_192 fv_X1_derive dX10_saved_47 (show _ = some 2 by decide +kernel) (by omega) (Nat.le_of_ble_eq_true rfl) (by decide) (by decide)) (fun s7 => ?_)
  refine tr_aload_n (i := 0) dX10_saved_50 rfl ?_
  refine tr_getR 10 h0 fl_X10_60 (by decide +kernel) dX10_saved_51 ?_
  refine tr_getR 1 (rk_10_6 h0) fl_X10_196 (by decide +kernel) dX10_saved_54 ?_
  refine tr_getI 5 (rk_1_3 (rk_10_6 h0)) fl_X10_209 (by decide +kernel) dX10_saved_57 ?_
  refine tr_aload_n (i := 0) dX10_saved_60 rfl ?_
  refine tr_getR 10 h0 fl_X10_64 (by decide +kernel) dX10_saved_61 ?_
  refine tr_getR 1 (rk_10_7 h0) fl_X10_196 (by decide +kernel) dX10_saved_64 ?_
  refine tr_getI 5 (rk_1_3 (rk_10_7 h0)) fl_X10_209 (by decide +kernel) dX10_saved_67 ?_
  refine tr_isub dX10_saved_70 ?_
  exact tr_iret rfl rfl (by decide) (by decide) dX10_saved_71
theorem dX10_bestClass_0 : decode cX10_bestClass 0 = .ok (.aload_n 0, 1) := by decide +kernel
theorem dX10_bestClass_1 : decode cX10_bestClass 1 = .ok (.iload_n 1, 1) := by decide +kernel
theorem dX10_bestClass_2 : decode cX10_bestClass 2 = .ok (.invokevirtual 202, 3) := by decide +kernel
theorem dX10_bestClass_5 : decode cX10_bestClass 5 = .ok (.aload_n 0, 1) := by decide +kernel
theorem dX10_bestClass_6 : decode cX10_bestClass 6 = .ok (.iload_n 2, 1) := by decide +kernel
theorem dX10_bestClass_7 : decode cX10_bestClass 7 = .ok (.invokevirtual 145, 3) := by decide +kernel
theorem dX10_bestClass_10 : decode cX10_bestClass 10 = .ok (.aload_n 0, 1) := by decide +kernel
theorem dX10_bestClass_11 : decode cX10_bestClass 11 = .ok (.getfield 19, 3) := by decide +kernel
theorem dX10_bestClass_14 : decode cX10_bestClass 14 = .ok (.iload_n 2, 1) := by decide +kernel
theorem dX10_bestClass_15 : decode cX10_bestClass 15 = .ok (.invokevirtual 306, 3) := by decide +kernel
theorem dX10_bestClass_18 : decode cX10_bestClass 18 = .ok (.iconst 1, 1) := by decide +kernel
theorem dX10_bestClass_19 : decode cX10_bestClass 19 = .ok (.iconst 1, 1) := by decide +kernel
theorem dX10_bestClass_20 : decode cX10_bestClass 20 = .ok (.invokestatic 128, 3) := by decide +kernel
theorem dX10_bestClass_23 : decode cX10_bestClass 23 = .ok (.aload_n 0, 1) := by decide +kernel
theorem dX10_bestClass_24 : decode cX10_bestClass 24 = .ok (.getfield 60, 3) := by decide +kernel
theorem dX10_bestClass_27 : decode cX10_bestClass 27 = .ok (.aload_n 0, 1) := by decide +kernel
theorem dX10_bestClass_28 : decode cX10_bestClass 28 = .ok (.getfield 19, 3) := by decide +kernel
theorem dX10_bestClass_31 : decode cX10_bestClass 31 = .ok (.iload_n 1, 1) := by decide +kernel
theorem dX10_bestClass_32 : decode cX10_bestClass 32 = .ok (.invokevirtual 205, 3) := by decide +kernel
theorem dX10_bestClass_35 : decode cX10_bestClass 35 = .ok (.iconst (-1), 1) := by decide +kernel
theorem dX10_bestClass_36 : decode cX10_bestClass 36 = .ok (.invokevirtual 192, 3) := by decide +kernel
theorem dX10_bestClass_39 : decode cX10_bestClass 39 = .ok (.iconst (-1), 1) := by decide +kernel
theorem dX10_bestClass_40 : decode cX10_bestClass 40 = .ok (.istore_n 3, 1) := by decide +kernel
theorem dX10_bestClass_41 : decode cX10_bestClass 41 = .ok (.iconst 0, 1) := by decide +kernel
theorem dX10_bestClass_42 : decode cX10_bestClass 42 = .ok (.istore 4, 2) := by decide +kernel
theorem dX10_bestClass_44 : decode cX10_bestClass 44 = .ok (.iconst 1, 1) := by decide +kernel
theorem dX10_bestClass_45 : decode cX10_bestClass 45 = .ok (.istore 5, 2) := by decide +kernel
theorem dX10_bestClass_47 : decode cX10_bestClass 47 = .ok (.iload 5, 2) := by decide +kernel
theorem dX10_bestClass_49 : decode cX10_bestClass 49 = .ok (.bipush 60, 2) := by decide +kernel
theorem dX10_bestClass_51 : decode cX10_bestClass 51 = .ok (.if_icmp .gt 53, 3) := by decide +kernel
theorem dX10_bestClass_54 : decode cX10_bestClass 54 = .ok (.aload_n 0, 1) := by decide +kernel
theorem dX10_bestClass_55 : decode cX10_bestClass 55 = .ok (.getfield 19, 3) := by decide +kernel
theorem dX10_bestClass_58 : decode cX10_bestClass 58 = .ok (.iload_n 2, 1) := by decide +kernel
theorem dX10_bestClass_59 : decode cX10_bestClass 59 = .ok (.iload 5, 2) := by decide +kernel
theorem dX10_bestClass_61 : decode cX10_bestClass 61 = .ok (.invokevirtual 309, 3) := by decide +kernel
theorem dX10_bestClass_64 : decode cX10_bestClass 64 = .ok (.ifCond .eq 34, 3) := by decide +kernel
theorem dX10_bestClass_67 : decode cX10_bestClass 67 = .ok (.aload_n 0, 1) := by decide +kernel
theorem dX10_bestClass_68 : decode cX10_bestClass 68 = .ok (.getfield 60, 3) := by decide +kernel
theorem dX10_bestClass_71 : decode cX10_bestClass 71 = .ok (.iload_n 2, 1) := by decide +kernel
theorem dX10_bestClass_72 : decode cX10_bestClass 72 = .ok (.iload 5, 2) := by decide +kernel
theorem dX10_bestClass_74 : decode cX10_bestClass 74 = .ok (.invokevirtual 215, 3) := by decide +kernel
theorem dX10_bestClass_77 : decode cX10_bestClass 77 = .ok (.istore 6, 2) := by decide +kernel
theorem dX10_bestClass_79 : decode cX10_bestClass 79 = .ok (.iload_n 3, 1) := by decide +kernel
theorem dX10_bestClass_80 : decode cX10_bestClass 80 = .ok (.iconst (-1), 1) := by decide +kernel
theorem dX10_bestClass_81 : decode cX10_bestClass 81 = .ok (.if_icmp .eq 10, 3) := by decide +kernel
theorem dX10_bestClass_84 : decode cX10_bestClass 84 = .ok (.iload 6, 2) := by decide +kernel
theorem dX10_bestClass_86 : decode cX10_bestClass 86 = .ok (.iload 4, 2) := by decide +kernel
theorem dX10_bestClass_88 : decode cX10_bestClass 88 = .ok (.if_icmp .ge 10, 3) := by decide +kernel
theorem dX10_bestClass_91 : decode cX10_bestClass 91 = .ok (.iload 5, 2) := by decide +kernel
theorem dX10_bestClass_93 : decode cX10_bestClass 93 = .ok (.istore_n 3, 1) := by decide +kernel
theorem dX10_bestClass_94 : decode cX10_bestClass 94 = .ok (.iload 6, 2) := by decide +kernel
theorem dX10_bestClass_96 : decode cX10_bestClass 96 = .ok (.istore 4, 2) := by decide +kernel
theorem dX10_bestClass_98 : decode cX10_bestClass 98 = .ok (.iinc 5 1, 3) := by decide +kernel
theorem dX10_bestClass_101 : decode cX10_bestClass 101 = .ok (.goto (-54), 3) := by decide +kernel
theorem dX10_bestClass_104 : decode cX10_bestClass 104 = .ok (.iload_n 3, 1) := by decide +kernel
theorem dX10_bestClass_105 : decode cX10_bestClass 105 = .ok (.ireturn, 1) := by decide +kernel
set_option maxRecDepth 100000 in
theorem t_X10_bestClass_47 (G : MG) (hG : (g_l G).stackTraces = false) (d : Nat) (hd : 8 ≤ d)    : ∀ (n : Nat) (σ : MsSt) (l0 : Nat) (l2 : Int32) (l3 : Int32) (l4 : Int32) (l5 : Int32) (h0 : ms_kd l0 = 11), TrO G mX10_bestClass d 3 18 3 18 ms_ui 47 [(0, .ref l0), (2, .int l2), (3, .int l3), (4, .int l4), (5, .int l5)] [] σ (f_X10_bestClass_47 n σ l0 l2 l3 l4 l5) := by
  intro n
  induction n with
  | zero => exact fun _ _ _ _ _ _ _ => tr_none
  | succ n ih =>
    intro σ l0 l2 l3 l4 l5 h0
    show TrO G mX10_bestClass d 3 18 3 18 ms_ui 47 [(0, .ref l0), (2, .int l2), (3, .int l3), (4, .int l4), (5, .int l5)] [] σ (if 60 < l5 then some (.inl l3, σ) else (f_X6_mayHaveClass σ (ms_rf l0 1) l2 l5).bind fun v7 => if v7 = 0 then (f_X10_bestClass_47 n) σ l0 l2 l3 l4 (l5 + 1) else (f_X1_countSwaps σ (ms_rf l0 6) l2 l5).bind fun v8 => if l3 = (-1) then (f_X10_bestClass_47 n) σ l0 l2 l5 v8 (l5 + 1) else if v8 < l4 then (f_X10_bestClass_47 n) σ l0 l2 l5 v8 (l5 + 1) else (f_X10_bestClass_47 n) σ l0 l2 l3 l4 (l5 + 1))
    refine tr_iload (i := 4) dX10_bestClass_47 rfl ?_
    refine tr_bipush (v := 60) dX10_bestClass_49 (by decide +kernel) ?_
    refine tr_icgt (o := none) (tgt := 104) dX10_bestClass_51 (by decide) ?_ ?_
    · refine tr_iload_n (i := 2) dX10_bestClass_104 rfl ?_
      exact tr_iret rfl rfl (by decide) (by decide) dX10_bestClass_105
    · refine tr_aload_n (i := 0) dX10_bestClass_54 rfl ?_
      refine tr_getR 10 h0 fl_X10_19 (by decide +kernel) dX10_bestClass_55 ?_
      refine tr_iload_n (i := 1) dX10_bestClass_58 rfl ?_
      refine tr_iload (i := 4) dX10_bestClass_59 rfl ?_
      refine tr_c_i (ms_cV (rest := []) (al := [.int l2, .int l5]) 6 (sp_X6_mayHaveClass G hG (d - 1) (by omega) σ (ms_rf l0 1) l2 l5 (rk_10_1 h0)) (rk_10_1 h0) (by decide +kernel) kl_X10_309 fv_X6_mayHaveClass dX10_bestClass_61 (show _ = some 2 by decide +kernel) (by omega) (Nat.le_of_ble_eq_true rfl) (by decide) (by decide)) (fun v7 => ?_)
      refine tr_ifeq (o := none) (tgt := 98) dX10_bestClass_64 (by decide) ?_ ?_
      · refine tr_iinc (k := 4) (v := (l5 + 1)) (lv' := [(0, .ref l0), (2, .int l2), (3, .int l3), (4, .int l4), (5, .int (l5 + 1))]) [1, 2, 3, 4, 0] dX10_bestClass_98 rfl rfl (by decide) rfl ?_
        refine tr_goto (tgt := 47) dX10_bestClass_101 (by decide) ?_
        exact (fun s y0 y1 y2 y3 y4 g0 => ih s y0 y1 y2 y3 y4 g0) σ l0 l2 l3 l4 (l5 + 1) h0
      · refine tr_aload_n (i := 0) dX10_bestClass_67 rfl ?_
        refine tr_getR 10 h0 fl_X10_60 (by decide +kernel) dX10_bestClass_68 ?_
        refine tr_iload_n (i := 1) dX10_bestClass_71 rfl ?_
        refine tr_iload (i := 4) dX10_bestClass_72 rfl ?_
        refine tr_c_i (ms_cV (rest := []) (al := [.int l2, .int l5]) 1 (sp_X1_countSwaps G hG (d - 1) (by omega) σ (ms_rf l0 6) l2 l5 (rk_10_6 h0)) (rk_10_6 h0) (by decide +kernel) kl_X10_215 fv_X1_countSwaps dX10_bestClass_74 (show _ = some 2 by decide +kernel) (by omega) (Nat.le_of_ble_eq_true rfl) (by decide) (by decide)) (fun v8 => ?_)
        refine tr_istore (lv' := [(0, .ref l0), (2, .int l2), (3, .int l3), (4, .int l4), (5, .int l5), (6, .int v8)]) [1, 2, 3, 4, 5, 0] dX10_bestClass_77 (by decide) rfl ?_
        refine tr_iload_n (i := 2) dX10_bestClass_79 rfl ?_
        refine tr_iconst (v := (-1)) dX10_bestClass_80 (by decide +kernel) ?_
        refine tr_iceq (o := none) (tgt := 91) dX10_bestClass_81 (by decide) ?_ ?_
        · refine tr_iload (i := 4) dX10_bestClass_91 rfl ?_
          refine tr_istore_n (lv' := [(0, .ref l0), (2, .int l2), (3, .int l5), (5, .int l5), (6, .int v8)]) [1, 2, 0, 4, 5] dX10_bestClass_93 (by decide) rfl ?_
          refine tr_iload (i := 4) dX10_bestClass_94 rfl ?_
          refine tr_istore (lv' := [(0, .ref l0), (2, .int l2), (3, .int l5), (4, .int v8), (5, .int l5)]) [1, 2, 3, 0, 4] dX10_bestClass_96 (by decide) rfl ?_
          refine tr_iinc (k := 4) (v := (l5 + 1)) (lv' := [(0, .ref l0), (2, .int l2), (3, .int l5), (4, .int v8), (5, .int (l5 + 1))]) [1, 2, 3, 4, 0] dX10_bestClass_98 rfl rfl (by decide) rfl ?_
          refine tr_goto (tgt := 47) dX10_bestClass_101 (by decide) ?_
          exact (fun s y0 y1 y2 y3 y4 g0 => ih s y0 y1 y2 y3 y4 g0) σ l0 l2 l5 v8 (l5 + 1) h0
        · refine tr_iload (i := 5) dX10_bestClass_84 rfl ?_
          refine tr_iload (i := 3) dX10_bestClass_86 rfl ?_
          refine tr_icge (o := none) (tgt := 98) dX10_bestClass_88 (by decide) ?_ ?_
          · refine tr_iinc (k := 4) (v := (l5 + 1)) (lv' := [(0, .ref l0), (2, .int l2), (3, .int l3), (4, .int l4), (5, .int (l5 + 1))]) [1, 2, 3, 4, 0] dX10_bestClass_98 rfl rfl (by decide) rfl ?_
            refine tr_goto (tgt := 47) dX10_bestClass_101 (by decide) ?_
            exact (fun s y0 y1 y2 y3 y4 g0 => ih s y0 y1 y2 y3 y4 g0) σ l0 l2 l3 l4 (l5 + 1) h0
          · refine tr_iload (i := 4) dX10_bestClass_91 rfl ?_
            refine tr_istore_n (lv' := [(0, .ref l0), (2, .int l2), (3, .int l5), (5, .int l5), (6, .int v8)]) [1, 2, 0, 4, 5] dX10_bestClass_93 (by decide) rfl ?_
            refine tr_iload (i := 4) dX10_bestClass_94 rfl ?_
            refine tr_istore (lv' := [(0, .ref l0), (2, .int l2), (3, .int l5), (4, .int v8), (5, .int l5)]) [1, 2, 3, 0, 4] dX10_bestClass_96 (by decide) rfl ?_
            refine tr_iinc (k := 4) (v := (l5 + 1)) (lv' := [(0, .ref l0), (2, .int l2), (3, .int l5), (4, .int v8), (5, .int (l5 + 1))]) [1, 2, 3, 4, 0] dX10_bestClass_98 rfl rfl (by decide) rfl ?_
            refine tr_goto (tgt := 47) dX10_bestClass_101 (by decide) ?_
            exact (fun s y0 y1 y2 y3 y4 g0 => ih s y0 y1 y2 y3 y4 g0) σ l0 l2 l5 v8 (l5 + 1) h0
set_option maxRecDepth 100000 in
theorem sp_X10_bestClass (G : MG) (hG : (g_l G).stackTraces = false) (d : Nat) (hd : 8 ≤ d)   (σ : MsSt) (l0 : Nat) (l1 : Int32) (l2 : Int32) (h0 : ms_kd l0 = 11) : MsSpec G mX10_bestClass d 3 18 [.ref l0, .int l1, .int l2] σ ms_ui (f_X10_bestClass σ l0 l1 l2) := by
  refine ms_start (by decide +kernel) rfl rfl (Nat.le_of_ble_eq_true rfl) ?_
  show TrO G mX10_bestClass d 3 18 0 0 ms_ui 0 [(0, .ref l0), (1, .int l1), (2, .int l2)] [] σ (ms_bt (f_X10_needLine σ l0 l1) (ms_bt (f_X10_needSign σ l0 l2) ((f_X6_kindOf σ (ms_rf l0 1) l2).bind fun v3 => ms_bt (f_X10_needIn σ v3 1 1) ((f_X6_lineAt σ (ms_rf l0 1) l1).bind fun v5 => (f_X1_derive σ (ms_rf l0 6) v5 (-1)).bind fun s6 => f_X10_bestClass_47 ms_fuel s6 l0 l2 (-1) 0 1) (fun e4 => some (.inr e4, σ))) (fun e2 => some (.inr e2, σ))) (fun e1 => some (.inr e1, σ)))
  refine tr_aload_n (i := 0) dX10_bestClass_0 rfl ?_
  refine tr_iload_n (i := 1) dX10_bestClass_1 rfl ?_
  refine tr_d_tv (ms_cV (rest := []) (al := [.int l1]) 10 (sp_X10_needLine G hG (d - 1) (by omega) σ l0 l1 h0) h0 (by decide +kernel) kl_X10_202 fv_X10_needLine dX10_bestClass_2 (show _ = some 1 by decide +kernel) (by omega) (Nat.le_of_ble_eq_true rfl) (by decide) (by decide)) rfl (by decide) (by decide) ?_ (fun e0 r h => by cases h; rfl)
  refine tr_aload_n (i := 0) dX10_bestClass_5 rfl ?_
  refine tr_iload_n (i := 2) dX10_bestClass_6 rfl ?_
  refine tr_d_tv (ms_cV (rest := []) (al := [.int l2]) 10 (sp_X10_needSign G hG (d - 1) (by omega) σ l0 l2 h0) h0 (by decide +kernel) kl_X10_145 fv_X10_needSign dX10_bestClass_7 (show _ = some 1 by decide +kernel) (by omega) (Nat.le_of_ble_eq_true rfl) (by decide) (by decide)) rfl (by decide) (by decide) ?_ (fun e0 r h => by cases h; rfl)
  refine tr_aload_n (i := 0) dX10_bestClass_10 rfl ?_
  refine tr_getR 10 h0 fl_X10_19 (by decide +kernel) dX10_bestClass_11 ?_
  refine tr_iload_n (i := 2) dX10_bestClass_14 rfl ?_
  refine tr_c_i (ms_cV (rest := []) (al := [.int l2]) 6 (sp_X6_kindOf G hG (d - 1) (by omega) σ (ms_rf l0 1) l2 (rk_10_1 h0)) (rk_10_1 h0) (by decide +kernel) kl_X10_306 fv_X6_kindOf dX10_bestClass_15 (show _ = some 1 by decide +kernel) (by omega) (Nat.le_of_ble_eq_true rfl) (by decide) (by decide)) (fun v3 => ?_)
  refine tr_iconst (v := 1) dX10_bestClass_18 (by decide +kernel) ?_
  refine tr_iconst (v := 1) dX10_bestClass_19 (by decide +kernel) ?_
  refine tr_d_tv (ms_cS (rest := []) (al := [.int v3, .int 1, .int 1]) (sp_X10_needIn G hG (d - 1) (by omega) σ v3 1 1) kl_X10_128 fs_X10_needIn dX10_bestClass_20 (show _ = some 3 by decide +kernel) (by omega) (Nat.le_of_ble_eq_true rfl) (by decide) (by decide)) rfl (by decide) (by decide) ?_ (fun e0 r h => by cases h; rfl)
  refine tr_aload_n (i := 0) dX10_bestClass_23 rfl ?_
  refine tr_getR 10 h0 fl_X10_60 (by decide +kernel) dX10_bestClass_24 ?_
  refine tr_aload_n (i := 0) dX10_bestClass_27 rfl ?_
  refine tr_getR 10 h0 fl_X10_19 (by decide +kernel) dX10_bestClass_28 ?_
  refine tr_iload_n (i := 1) dX10_bestClass_31 rfl ?_
  refine tr_c_a (ms_cV (rest := [.ref (ms_rf l0 6)]) (al := [.int l1]) 6 (sp_X6_lineAt G hG (d - 1) (by omega) σ (ms_rf l0 1) l1 (rk_10_1 h0)) (rk_10_1 h0) (by decide +kernel) kl_X10_205 fv_X6_lineAt dX10_bestClass_32 (show _ = some 1 by decide +kernel) (by omega) (Nat.le_of_ble_eq_true rfl) (by decide) (by decide)) (fun v5 e_v5 => ?_)
  refine tr_iconst (v := (-1)) dX10_bestClass_35 (by decide +kernel) ?_
  refine tr_c_wv (ms_cV (rest := []) (al := [.ref v5, .int (-1)]) 1 (sp_X1_derive G hG (d - 1) (by omega) σ (ms_rf l0 6) v5 (-1) (rk_10_6 h0) (ra_X6_lineAt (rk_10_1 h0) e_v5)) (rk_10_6 h0) (by decide +kernel) kl_X10_192 fv_X1_derive dX10_bestClass_36 (show _ = some 2 by decide +kernel) (by omega) (Nat.le_of_ble_eq_true rfl) (by decide) (by decide)) (fun s6 => ?_)
  refine tr_iconst (v := (-1)) dX10_bestClass_39 (by decide +kernel) ?_
  refine tr_istore_n (lv' := [(0, .ref l0), (2, .int l2), (3, .int (-1))]) [1, 3, 0] dX10_bestClass_40 (by decide) rfl ?_
  refine tr_iconst (v := 0) dX10_bestClass_41 (by decide +kernel) ?_
  refine tr_istore (lv' := [(0, .ref l0), (2, .int l2), (3, .int (-1)), (4, .int 0)]) [1, 2, 3, 0] dX10_bestClass_42 (by decide) rfl ?_
  refine tr_iconst (v := 1) dX10_bestClass_44 (by decide +kernel) ?_
  refine tr_istore (lv' := [(0, .ref l0), (2, .int l2), (3, .int (-1)), (4, .int 0), (5, .int 1)]) [1, 2, 3, 4, 0] dX10_bestClass_45 (by decide) rfl ?_
  exact t_X10_bestClass_47 G hG d hd ms_fuel s6 l0 l2 (-1) 0 1 h0
theorem dX10_meanMarks_0 : decode cX10_meanMarks 0 = .ok (.aload_n 0, 1) := by decide +kernel
theorem dX10_meanMarks_1 : decode cX10_meanMarks 1 = .ok (.iload_n 1, 1) := by decide +kernel
theorem dX10_meanMarks_2 : decode cX10_meanMarks 2 = .ok (.invokevirtual 202, 3) := by decide +kernel
theorem dX10_meanMarks_5 : decode cX10_meanMarks 5 = .ok (.aload_n 0, 1) := by decide +kernel
theorem dX10_meanMarks_6 : decode cX10_meanMarks 6 = .ok (.getfield 60, 3) := by decide +kernel
theorem dX10_meanMarks_9 : decode cX10_meanMarks 9 = .ok (.aload_n 0, 1) := by decide +kernel
theorem dX10_meanMarks_10 : decode cX10_meanMarks 10 = .ok (.getfield 19, 3) := by decide +kernel
theorem dX10_meanMarks_13 : decode cX10_meanMarks 13 = .ok (.iload_n 1, 1) := by decide +kernel
theorem dX10_meanMarks_14 : decode cX10_meanMarks 14 = .ok (.invokevirtual 205, 3) := by decide +kernel
theorem dX10_meanMarks_17 : decode cX10_meanMarks 17 = .ok (.iconst (-1), 1) := by decide +kernel
theorem dX10_meanMarks_18 : decode cX10_meanMarks 18 = .ok (.invokevirtual 192, 3) := by decide +kernel
theorem dX10_meanMarks_21 : decode cX10_meanMarks 21 = .ok (.aload_n 0, 1) := by decide +kernel
theorem dX10_meanMarks_22 : decode cX10_meanMarks 22 = .ok (.getfield 60, 3) := by decide +kernel
theorem dX10_meanMarks_25 : decode cX10_meanMarks 25 = .ok (.getfield 218, 3) := by decide +kernel
theorem dX10_meanMarks_28 : decode cX10_meanMarks 28 = .ok (.getfield 209, 3) := by decide +kernel
theorem dX10_meanMarks_31 : decode cX10_meanMarks 31 = .ok (.istore_n 2, 1) := by decide +kernel
theorem dX10_meanMarks_32 : decode cX10_meanMarks 32 = .ok (.iconst 0, 1) := by decide +kernel
theorem dX10_meanMarks_33 : decode cX10_meanMarks 33 = .ok (.istore_n 3, 1) := by decide +kernel
theorem dX10_meanMarks_34 : decode cX10_meanMarks 34 = .ok (.iconst 0, 1) := by decide +kernel
theorem dX10_meanMarks_35 : decode cX10_meanMarks 35 = .ok (.istore 4, 2) := by decide +kernel
theorem dX10_meanMarks_37 : decode cX10_meanMarks 37 = .ok (.iload 4, 2) := by decide +kernel
theorem dX10_meanMarks_39 : decode cX10_meanMarks 39 = .ok (.iload_n 2, 1) := by decide +kernel
theorem dX10_meanMarks_40 : decode cX10_meanMarks 40 = .ok (.if_icmp .ge 21, 3) := by decide +kernel
theorem dX10_meanMarks_43 : decode cX10_meanMarks 43 = .ok (.iload_n 3, 1) := by decide +kernel
theorem dX10_meanMarks_44 : decode cX10_meanMarks 44 = .ok (.aload_n 0, 1) := by decide +kernel
theorem dX10_meanMarks_45 : decode cX10_meanMarks 45 = .ok (.getfield 60, 3) := by decide +kernel
theorem dX10_meanMarks_48 : decode cX10_meanMarks 48 = .ok (.iload 4, 2) := by decide +kernel
theorem dX10_meanMarks_50 : decode cX10_meanMarks 50 = .ok (.invokevirtual 255, 3) := by decide +kernel
theorem dX10_meanMarks_53 : decode cX10_meanMarks 53 = .ok (.iadd, 1) := by decide +kernel
theorem dX10_meanMarks_54 : decode cX10_meanMarks 54 = .ok (.istore_n 3, 1) := by decide +kernel
theorem dX10_meanMarks_55 : decode cX10_meanMarks 55 = .ok (.iinc 4 1, 3) := by decide +kernel
theorem dX10_meanMarks_58 : decode cX10_meanMarks 58 = .ok (.goto (-21), 3) := by decide +kernel
theorem dX10_meanMarks_61 : decode cX10_meanMarks 61 = .ok (.iload_n 2, 1) := by decide +kernel
theorem dX10_meanMarks_62 : decode cX10_meanMarks 62 = .ok (.ifCond .ne 7, 3) := by decide +kernel
theorem dX10_meanMarks_65 : decode cX10_meanMarks 65 = .ok (.dconst 0, 1) := by decide +kernel
theorem dX10_meanMarks_66 : decode cX10_meanMarks 66 = .ok (.goto 8, 3) := by decide +kernel
theorem dX10_meanMarks_69 : decode cX10_meanMarks 69 = .ok (.iload_n 3, 1) := by decide +kernel
theorem dX10_meanMarks_70 : decode cX10_meanMarks 70 = .ok (.i2d, 1) := by decide +kernel
theorem dX10_meanMarks_71 : decode cX10_meanMarks 71 = .ok (.iload_n 2, 1) := by decide +kernel
theorem dX10_meanMarks_72 : decode cX10_meanMarks 72 = .ok (.i2d, 1) := by decide +kernel
theorem dX10_meanMarks_73 : decode cX10_meanMarks 73 = .ok (.ddiv, 1) := by decide +kernel
theorem dX10_meanMarks_74 : decode cX10_meanMarks 74 = .ok (.dreturn, 1) := by decide +kernel
set_option maxRecDepth 100000 in
theorem t_X10_meanMarks_37 (G : MG) (hG : (g_l G).stackTraces = false) (d : Nat) (hd : 8 ≤ d)    : ∀ (n : Nat) (σ : MsSt) (l0 : Nat) (l2 : Int32) (l3 : Int32) (l4 : Int32) (h0 : ms_kd l0 = 11), TrO G mX10_meanMarks d 1 6 1 6 ms_ux 37 [(0, .ref l0), (2, .int l2), (3, .int l3), (4, .int l4)] [] σ (f_X10_meanMarks_37 n σ l0 l2 l3 l4) := by
  intro n
  induction n with
  | zero => exact fun _ _ _ _ _ _ => tr_none
  | succ n ih =>
    intro σ l0 l2 l3 l4 h0
    show TrO G mX10_meanMarks d 1 6 1 6 ms_ux 37 [(0, .ref l0), (2, .int l2), (3, .int l3), (4, .int l4)] [] σ (if l4 < l2 then (f_X1_marksIn σ (ms_rf l0 6) l4).bind fun v5 => (f_X10_meanMarks_37 n) σ l0 l2 (l3 + v5) (l4 + 1) else if l2 = 0 then some (.inl 0, σ) else (ms_ddiv (FP.i2d l3) (FP.i2d l2)).bind fun v4 => some (.inl v4, σ))
    refine tr_iload (i := 3) dX10_meanMarks_37 rfl ?_
    refine tr_iload_n (i := 1) dX10_meanMarks_39 rfl ?_
    refine tr_icge (o := none) (tgt := 61) dX10_meanMarks_40 (by decide) ?_ ?_
    · refine tr_iload_n (i := 1) dX10_meanMarks_61 rfl ?_
      refine tr_ifne (o := none) (tgt := 69) dX10_meanMarks_62 (by decide) ?_ ?_
      · refine tr_iload_n (i := 2) dX10_meanMarks_69 rfl ?_
        refine tr_i2d dX10_meanMarks_70 ?_
        refine tr_iload_n (i := 1) dX10_meanMarks_71 rfl ?_
        refine tr_i2d dX10_meanMarks_72 ?_
        refine tr_ddiv (o := none) dX10_meanMarks_73 (fun v4 => ?_)
        exact tr_dret rfl rfl (by decide) (by decide) dX10_meanMarks_74
      · refine tr_dconst0 dX10_meanMarks_65 ?_
        refine tr_goto (tgt := 74) dX10_meanMarks_66 (by decide) ?_
        exact tr_dret rfl rfl (by decide) (by decide) dX10_meanMarks_74
    · refine tr_iload_n (i := 2) dX10_meanMarks_43 rfl ?_
      refine tr_aload_n (i := 0) dX10_meanMarks_44 rfl ?_
      refine tr_getR 10 h0 fl_X10_60 (by decide +kernel) dX10_meanMarks_45 ?_
      refine tr_iload (i := 3) dX10_meanMarks_48 rfl ?_
      refine tr_c_i (ms_cV (rest := [.int l3]) (al := [.int l4]) 1 (sp_X1_marksIn G hG (d - 1) (by omega) σ (ms_rf l0 6) l4 (rk_10_6 h0)) (rk_10_6 h0) (by decide +kernel) kl_X10_255 fv_X1_marksIn dX10_meanMarks_50 (show _ = some 1 by decide +kernel) (by omega) (Nat.le_of_ble_eq_true rfl) (by decide) (by decide)) (fun v5 => ?_)
      refine tr_iadd dX10_meanMarks_53 ?_
      refine tr_istore_n (lv' := [(0, .ref l0), (2, .int l2), (3, .int (l3 + v5)), (4, .int l4)]) [1, 2, 0, 3] dX10_meanMarks_54 (by decide) rfl ?_
      refine tr_iinc (k := 3) (v := (l4 + 1)) (lv' := [(0, .ref l0), (2, .int l2), (3, .int (l3 + v5)), (4, .int (l4 + 1))]) [1, 2, 3, 0] dX10_meanMarks_55 rfl rfl (by decide) rfl ?_
      refine tr_goto (tgt := 37) dX10_meanMarks_58 (by decide) ?_
      exact (fun s y0 y1 y2 y3 g0 => ih s y0 y1 y2 y3 g0) σ l0 l2 (l3 + v5) (l4 + 1) h0
set_option maxRecDepth 100000 in
theorem sp_X10_meanMarks (G : MG) (hG : (g_l G).stackTraces = false) (d : Nat) (hd : 8 ≤ d)   (σ : MsSt) (l0 : Nat) (l1 : Int32) (h0 : ms_kd l0 = 11) : MsSpec G mX10_meanMarks d 1 6 [.ref l0, .int l1] σ ms_ux (f_X10_meanMarks σ l0 l1) := by
  refine ms_start (by decide +kernel) rfl rfl (Nat.le_of_ble_eq_true rfl) ?_
  show TrO G mX10_meanMarks d 1 6 0 0 ms_ux 0 [(0, .ref l0), (1, .int l1)] [] σ (ms_bt (f_X10_needLine σ l0 l1) ((f_X6_lineAt σ (ms_rf l0 1) l1).bind fun v2 => (f_X1_derive σ (ms_rf l0 6) v2 (-1)).bind fun s3 => f_X10_meanMarks_37 ms_fuel s3 l0 (ms_i s3 (ms_rf (ms_rf l0 6) 4) 1) 0 0) (fun e1 => some (.inr e1, σ)))
  refine tr_aload_n (i := 0) dX10_meanMarks_0 rfl ?_
  refine tr_iload_n (i := 1) dX10_meanMarks_1 rfl ?_
  refine tr_d_tv (ms_cV (rest := []) (al := [.int l1]) 10 (sp_X10_needLine G hG (d - 1) (by omega) σ l0 l1 h0) h0 (by decide +kernel) kl_X10_202 fv_X10_needLine dX10_meanMarks_2 (show _ = some 1 by decide +kernel) (by omega) (Nat.le_of_ble_eq_true rfl) (by decide) (by decide)) rfl (by decide) (by decide) ?_ (fun e0 r h => by cases h; rfl)
  refine tr_aload_n (i := 0) dX10_meanMarks_5 rfl ?_
  refine tr_getR 10 h0 fl_X10_60 (by decide +kernel) dX10_meanMarks_6 ?_
  refine tr_aload_n (i := 0) dX10_meanMarks_9 rfl ?_
  refine tr_getR 10 h0 fl_X10_19 (by decide +kernel) dX10_meanMarks_10 ?_
  refine tr_iload_n (i := 1) dX10_meanMarks_13 rfl ?_
  refine tr_c_a (ms_cV (rest := [.ref (ms_rf l0 6)]) (al := [.int l1]) 6 (sp_X6_lineAt G hG (d - 1) (by omega) σ (ms_rf l0 1) l1 (rk_10_1 h0)) (rk_10_1 h0) (by decide +kernel) kl_X10_205 fv_X6_lineAt dX10_meanMarks_14 (show _ = some 1 by decide +kernel) (by omega) (Nat.le_of_ble_eq_true rfl) (by decide) (by decide)) (fun v2 e_v2 => ?_)
  refine tr_iconst (v := (-1)) dX10_meanMarks_17 (by decide +kernel) ?_
  refine tr_c_wv (ms_cV (rest := []) (al := [.ref v2, .int (-1)]) 1 (sp_X1_derive G hG (d - 1) (by omega) σ (ms_rf l0 6) v2 (-1) (rk_10_6 h0) (ra_X6_lineAt (rk_10_1 h0) e_v2)) (rk_10_6 h0) (by decide +kernel) kl_X10_192 fv_X1_derive dX10_meanMarks_18 (show _ = some 2 by decide +kernel) (by omega) (Nat.le_of_ble_eq_true rfl) (by decide) (by decide)) (fun s3 => ?_)
  refine tr_aload_n (i := 0) dX10_meanMarks_21 rfl ?_
  refine tr_getR 10 h0 fl_X10_60 (by decide +kernel) dX10_meanMarks_22 ?_
  refine tr_getR 1 (rk_10_6 h0) fl_X10_218 (by decide +kernel) dX10_meanMarks_25 ?_
  refine tr_getI 5 (rk_1_4 (rk_10_6 h0)) fl_X10_209 (by decide +kernel) dX10_meanMarks_28 ?_
  refine tr_istore_n (lv' := [(0, .ref l0), (2, .int (ms_i s3 (ms_rf (ms_rf l0 6) 4) 1))]) [1, 0] dX10_meanMarks_31 (by decide) rfl ?_
  refine tr_iconst (v := 0) dX10_meanMarks_32 (by decide +kernel) ?_
  refine tr_istore_n (lv' := [(0, .ref l0), (2, .int (ms_i s3 (ms_rf (ms_rf l0 6) 4) 1)), (3, .int 0)]) [1, 2, 0] dX10_meanMarks_33 (by decide) rfl ?_
  refine tr_iconst (v := 0) dX10_meanMarks_34 (by decide +kernel) ?_
  refine tr_istore (lv' := [(0, .ref l0), (2, .int (ms_i s3 (ms_rf (ms_rf l0 6) 4) 1)), (3, .int 0), (4, .int 0)]) [1, 2, 3, 0] dX10_meanMarks_35 (by decide) rfl ?_
  exact t_X10_meanMarks_37 G hG d hd ms_fuel s3 l0 (ms_i s3 (ms_rf (ms_rf l0 6) 4) 1) 0 0 h0
theorem dX10_shortness_0 : decode cX10_shortness 0 = .ok (.aload_n 0, 1) := by decide +kernel
theorem dX10_shortness_1 : decode cX10_shortness 1 = .ok (.iload_n 1, 1) := by decide +kernel
theorem dX10_shortness_2 : decode cX10_shortness 2 = .ok (.invokevirtual 202, 3) := by decide +kernel
theorem dX10_shortness_5 : decode cX10_shortness 5 = .ok (.aload_n 0, 1) := by decide +kernel
theorem dX10_shortness_6 : decode cX10_shortness 6 = .ok (.getfield 60, 3) := by decide +kernel
theorem dX10_shortness_9 : decode cX10_shortness 9 = .ok (.aload_n 0, 1) := by decide +kernel
theorem dX10_shortness_10 : decode cX10_shortness 10 = .ok (.getfield 19, 3) := by decide +kernel
theorem dX10_shortness_13 : decode cX10_shortness 13 = .ok (.iload_n 1, 1) := by decide +kernel
theorem dX10_shortness_14 : decode cX10_shortness 14 = .ok (.invokevirtual 205, 3) := by decide +kernel
theorem dX10_shortness_17 : decode cX10_shortness 17 = .ok (.iconst (-1), 1) := by decide +kernel
theorem dX10_shortness_18 : decode cX10_shortness 18 = .ok (.invokevirtual 192, 3) := by decide +kernel
theorem dX10_shortness_21 : decode cX10_shortness 21 = .ok (.aload_n 0, 1) := by decide +kernel
theorem dX10_shortness_22 : decode cX10_shortness 22 = .ok (.getfield 60, 3) := by decide +kernel
theorem dX10_shortness_25 : decode cX10_shortness 25 = .ok (.getfield 212, 3) := by decide +kernel
theorem dX10_shortness_28 : decode cX10_shortness 28 = .ok (.getfield 209, 3) := by decide +kernel
theorem dX10_shortness_31 : decode cX10_shortness 31 = .ok (.istore_n 2, 1) := by decide +kernel
theorem dX10_shortness_32 : decode cX10_shortness 32 = .ok (.iload_n 2, 1) := by decide +kernel
theorem dX10_shortness_33 : decode cX10_shortness 33 = .ok (.ifCond .ne 7, 3) := by decide +kernel
theorem dX10_shortness_36 : decode cX10_shortness 36 = .ok (.fconst 0, 1) := by decide +kernel
theorem dX10_shortness_37 : decode cX10_shortness 37 = .ok (.goto 17, 3) := by decide +kernel
theorem dX10_shortness_40 : decode cX10_shortness 40 = .ok (.aload_n 0, 1) := by decide +kernel
theorem dX10_shortness_41 : decode cX10_shortness 41 = .ok (.getfield 60, 3) := by decide +kernel
theorem dX10_shortness_44 : decode cX10_shortness 44 = .ok (.getfield 196, 3) := by decide +kernel
theorem dX10_shortness_47 : decode cX10_shortness 47 = .ok (.getfield 209, 3) := by decide +kernel
theorem dX10_shortness_50 : decode cX10_shortness 50 = .ok (.i2f, 1) := by decide +kernel
theorem dX10_shortness_51 : decode cX10_shortness 51 = .ok (.iload_n 2, 1) := by decide +kernel
theorem dX10_shortness_52 : decode cX10_shortness 52 = .ok (.i2f, 1) := by decide +kernel
theorem dX10_shortness_53 : decode cX10_shortness 53 = .ok (.fdiv, 1) := by decide +kernel
theorem dX10_shortness_54 : decode cX10_shortness 54 = .ok (.freturn, 1) := by decide +kernel
set_option maxRecDepth 100000 in
theorem sp_X10_shortness (G : MG) (hG : (g_l G).stackTraces = false) (d : Nat) (hd : 8 ≤ d)   (σ : MsSt) (l0 : Nat) (l1 : Int32) (h0 : ms_kd l0 = 11) : MsSpec G mX10_shortness d 1 6 [.ref l0, .int l1] σ ms_uf (f_X10_shortness σ l0 l1) := by
  refine ms_start (by decide +kernel) rfl rfl (Nat.le_of_ble_eq_true rfl) ?_
  show TrO G mX10_shortness d 1 6 0 0 ms_uf 0 [(0, .ref l0), (1, .int l1)] [] σ (ms_bt (f_X10_needLine σ l0 l1) ((f_X6_lineAt σ (ms_rf l0 1) l1).bind fun v2 => (f_X1_derive σ (ms_rf l0 6) v2 (-1)).bind fun s3 => if (ms_i s3 (ms_rf (ms_rf l0 6) 2) 1) = 0 then some (.inl 0, s3) else (ms_fdiv (FP.i2f (ms_i s3 (ms_rf (ms_rf l0 6) 3) 1)) (FP.i2f (ms_i s3 (ms_rf (ms_rf l0 6) 2) 1))).bind fun v4 => some (.inl v4, s3)) (fun e1 => some (.inr e1, σ)))
  refine tr_aload_n (i := 0) dX10_shortness_0 rfl ?_
  refine tr_iload_n (i := 1) dX10_shortness_1 rfl ?_
  refine tr_d_tv (ms_cV (rest := []) (al := [.int l1]) 10 (sp_X10_needLine G hG (d - 1) (by omega) σ l0 l1 h0) h0 (by decide +kernel) kl_X10_202 fv_X10_needLine dX10_shortness_2 (show _ = some 1 by decide +kernel) (by omega) (Nat.le_of_ble_eq_true rfl) (by decide) (by decide)) rfl (by decide) (by decide) ?_ (fun e0 r h => by cases h; rfl)
  refine tr_aload_n (i := 0) dX10_shortness_5 rfl ?_
  refine tr_getR 10 h0 fl_X10_60 (by decide +kernel) dX10_shortness_6 ?_
  refine tr_aload_n (i := 0) dX10_shortness_9 rfl ?_
  refine tr_getR 10 h0 fl_X10_19 (by decide +kernel) dX10_shortness_10 ?_
  refine tr_iload_n (i := 1) dX10_shortness_13 rfl ?_
  refine tr_c_a (ms_cV (rest := [.ref (ms_rf l0 6)]) (al := [.int l1]) 6 (sp_X6_lineAt G hG (d - 1) (by omega) σ (ms_rf l0 1) l1 (rk_10_1 h0)) (rk_10_1 h0) (by decide +kernel) kl_X10_205 fv_X6_lineAt dX10_shortness_14 (show _ = some 1 by decide +kernel) (by omega) (Nat.le_of_ble_eq_true rfl) (by decide) (by decide)) (fun v2 e_v2 => ?_)
  refine tr_iconst (v := (-1)) dX10_shortness_17 (by decide +kernel) ?_
  refine tr_c_wv (ms_cV (rest := []) (al := [.ref v2, .int (-1)]) 1 (sp_X1_derive G hG (d - 1) (by omega) σ (ms_rf l0 6) v2 (-1) (rk_10_6 h0) (ra_X6_lineAt (rk_10_1 h0) e_v2)) (rk_10_6 h0) (by decide +kernel) kl_X10_192 fv_X1_derive dX10_shortness_18 (show _ = some 2 by decide +kernel) (by omega) (Nat.le_of_ble_eq_true rfl) (by decide) (by decide)) (fun s3 => ?_)
  refine tr_aload_n (i := 0) dX10_shortness_21 rfl ?_
  refine tr_getR 10 h0 fl_X10_60 (by decide +kernel) dX10_shortness_22 ?_
  refine tr_getR 1 (rk_10_6 h0) fl_X10_212 (by decide +kernel) dX10_shortness_25 ?_
  refine tr_getI 5 (rk_1_2 (rk_10_6 h0)) fl_X10_209 (by decide +kernel) dX10_shortness_28 ?_
  refine tr_istore_n (lv' := [(0, .ref l0), (2, .int (ms_i s3 (ms_rf (ms_rf l0 6) 2) 1))]) [1, 0] dX10_shortness_31 (by decide) rfl ?_
  refine tr_iload_n (i := 1) dX10_shortness_32 rfl ?_
  refine tr_ifne (o := none) (tgt := 40) dX10_shortness_33 (by decide) ?_ ?_
  · refine tr_aload_n (i := 0) dX10_shortness_40 rfl ?_
    refine tr_getR 10 h0 fl_X10_60 (by decide +kernel) dX10_shortness_41 ?_
    refine tr_getR 1 (rk_10_6 h0) fl_X10_196 (by decide +kernel) dX10_shortness_44 ?_
    refine tr_getI 5 (rk_1_3 (rk_10_6 h0)) fl_X10_209 (by decide +kernel) dX10_shortness_47 ?_
    refine tr_i2f dX10_shortness_50 ?_
    refine tr_iload_n (i := 1) dX10_shortness_51 rfl ?_
    refine tr_i2f dX10_shortness_52 ?_
    refine tr_fdiv (o := none) dX10_shortness_53 (fun v4 => ?_)
    exact tr_fret rfl rfl (by decide) (by decide) dX10_shortness_54
  · refine tr_fconst0 dX10_shortness_36 ?_
    refine tr_goto (tgt := 54) dX10_shortness_37 (by decide) ?_
    exact tr_fret rfl rfl (by decide) (by decide) dX10_shortness_54
theorem dX10_hand_0 : decode cX10_hand 0 = .ok (.aload_n 0, 1) := by decide +kernel
theorem dX10_hand_1 : decode cX10_hand 1 = .ok (.iload_n 1, 1) := by decide +kernel
theorem dX10_hand_2 : decode cX10_hand 2 = .ok (.invokevirtual 202, 3) := by decide +kernel
theorem dX10_hand_5 : decode cX10_hand 5 = .ok (.aload_n 0, 1) := by decide +kernel
theorem dX10_hand_6 : decode cX10_hand 6 = .ok (.getfield 44, 3) := by decide +kernel
theorem dX10_hand_9 : decode cX10_hand 9 = .ok (.aload_n 0, 1) := by decide +kernel
theorem dX10_hand_10 : decode cX10_hand 10 = .ok (.getfield 19, 3) := by decide +kernel
theorem dX10_hand_13 : decode cX10_hand 13 = .ok (.invokevirtual 313, 3) := by decide +kernel
theorem dX10_hand_16 : decode cX10_hand 16 = .ok (.aload_n 0, 1) := by decide +kernel
theorem dX10_hand_17 : decode cX10_hand 17 = .ok (.getfield 19, 3) := by decide +kernel
theorem dX10_hand_20 : decode cX10_hand 20 = .ok (.getfield 142, 3) := by decide +kernel
theorem dX10_hand_23 : decode cX10_hand 23 = .ok (.istore_n 2, 1) := by decide +kernel
theorem dX10_hand_24 : decode cX10_hand 24 = .ok (.aload_n 0, 1) := by decide +kernel
theorem dX10_hand_25 : decode cX10_hand 25 = .ok (.getfield 19, 3) := by decide +kernel
theorem dX10_hand_28 : decode cX10_hand 28 = .ok (.iload_n 1, 1) := by decide +kernel
theorem dX10_hand_29 : decode cX10_hand 29 = .ok (.putfield 142, 3) := by decide +kernel
theorem dX10_hand_32 : decode cX10_hand 32 = .ok (.iload_n 2, 1) := by decide +kernel
theorem dX10_hand_33 : decode cX10_hand 33 = .ok (.ireturn, 1) := by decide +kernel
set_option maxRecDepth 100000 in
theorem sp_X10_hand (G : MG) (hG : (g_l G).stackTraces = false) (d : Nat) (hd : 8 ≤ d)   (σ : MsSt) (l0 : Nat) (l1 : Int32) (h0 : ms_kd l0 = 11) : MsSpec G mX10_hand d 1 6 [.ref l0, .int l1] σ ms_ui (f_X10_hand σ l0 l1) := by
  refine ms_start (by decide +kernel) rfl rfl (Nat.le_of_ble_eq_true rfl) ?_
  show TrO G mX10_hand d 1 6 0 0 ms_ui 0 [(0, .ref l0), (1, .int l1)] [] σ (ms_bt (f_X10_needLine σ l0 l1) ((f_X2_record σ (ms_rf l0 4) (ms_rf l0 1)).bind fun s2 => ms_nm (ms_si s2 (ms_rf l0 1) 6 l1) fun s3 => some (.inl (ms_i s2 (ms_rf l0 1) 6), s3)) (fun e1 => some (.inr e1, σ)))
  refine tr_aload_n (i := 0) dX10_hand_0 rfl ?_
  refine tr_iload_n (i := 1) dX10_hand_1 rfl ?_
  refine tr_d_tv (ms_cV (rest := []) (al := [.int l1]) 10 (sp_X10_needLine G hG (d - 1) (by omega) σ l0 l1 h0) h0 (by decide +kernel) kl_X10_202 fv_X10_needLine dX10_hand_2 (show _ = some 1 by decide +kernel) (by omega) (Nat.le_of_ble_eq_true rfl) (by decide) (by decide)) rfl (by decide) (by decide) ?_ (fun e0 r h => by cases h; rfl)
  refine tr_aload_n (i := 0) dX10_hand_5 rfl ?_
  refine tr_getR 10 h0 fl_X10_44 (by decide +kernel) dX10_hand_6 ?_
  refine tr_aload_n (i := 0) dX10_hand_9 rfl ?_
  refine tr_getR 10 h0 fl_X10_19 (by decide +kernel) dX10_hand_10 ?_
  refine tr_c_wv (ms_cV (rest := []) (al := [.ref (ms_rf l0 1)]) 2 (sp_X2_record G hG (d - 1) (by omega) σ (ms_rf l0 4) (ms_rf l0 1) (rk_10_4 h0) (rk_10_1 h0)) (rk_10_4 h0) (by decide +kernel) kl_X10_313 fv_X2_record dX10_hand_13 (show _ = some 1 by decide +kernel) (by omega) (Nat.le_of_ble_eq_true rfl) (by decide) (by decide)) (fun s2 => ?_)
  refine tr_aload_n (i := 0) dX10_hand_16 rfl ?_
  refine tr_getR 10 h0 fl_X10_19 (by decide +kernel) dX10_hand_17 ?_
  refine tr_getI 6 (rk_10_1 h0) fl_X10_142 (by decide +kernel) dX10_hand_20 ?_
  refine tr_istore_n (lv' := [(0, .ref l0), (1, .int l1), (2, .int (ms_i s2 (ms_rf l0 1) 6))]) [1, 2, 0] dX10_hand_23 (by decide) rfl ?_
  refine tr_aload_n (i := 0) dX10_hand_24 rfl ?_
  refine tr_getR 10 h0 fl_X10_19 (by decide +kernel) dX10_hand_25 ?_
  refine tr_iload_n (i := 1) dX10_hand_28 rfl ?_
  refine tr_putI 6 (rk_10_1 h0) fl_X10_142 (by decide +kernel) dX10_hand_29 ?_
  refine ms_ltS (fun s3 => ?_)
  refine tr_iload_n (i := 2) dX10_hand_32 rfl ?_
  exact tr_iret rfl rfl (by decide) (by decide) dX10_hand_33
theorem dX10_allowIn_0 : decode cX10_allowIn 0 = .ok (.iload_n 0, 1) := by decide +kernel
theorem dX10_allowIn_1 : decode cX10_allowIn 1 = .ok (.iload_n 1, 1) := by decide +kernel
theorem dX10_allowIn_2 : decode cX10_allowIn 2 = .ok (.if_icmp .lt 8, 3) := by decide +kernel
theorem dX10_allowIn_5 : decode cX10_allowIn 5 = .ok (.iload_n 0, 1) := by decide +kernel
theorem dX10_allowIn_6 : decode cX10_allowIn 6 = .ok (.iload_n 2, 1) := by decide +kernel
theorem dX10_allowIn_7 : decode cX10_allowIn 7 = .ok (.if_icmp .le 14, 3) := by decide +kernel
theorem dX10_allowIn_10 : decode cX10_allowIn 10 = .ok (.new 378, 3) := by decide +kernel
theorem dX10_allowIn_13 : decode cX10_allowIn 13 = .ok (.dup, 1) := by decide +kernel
theorem dX10_allowIn_14 : decode cX10_allowIn 14 = .ok (.ldc_w 385, 3) := by decide +kernel
theorem dX10_allowIn_17 : decode cX10_allowIn 17 = .ok (.invokespecial 382, 3) := by decide +kernel
theorem dX10_allowIn_20 : decode cX10_allowIn 20 = .ok (.athrow, 1) := by decide +kernel
theorem dX10_allowIn_21 : decode cX10_allowIn 21 = .ok (.return_, 1) := by decide +kernel
set_option maxRecDepth 100000 in
theorem sp_X10_allowIn (G : MG) (hG : (g_l G).stackTraces = false) (d : Nat) (hd : 6 ≤ d)   (σ : MsSt) (l0 : Int32) (l1 : Int32) (l2 : Int32) : MsSpec G mX10_allowIn d 1 6 [.int l0, .int l1, .int l2] σ (ms_tv σ) (f_X10_allowIn σ l0 l1 l2) := by
  refine ms_start (by decide +kernel) rfl rfl (Nat.le_of_ble_eq_true rfl) ?_
  show TrO G mX10_allowIn d 1 6 0 0 (ms_tv σ) 0 [(0, .int l0), (1, .int l1), (2, .int l2)] [] σ (if l0 < l1 then some (some 1) else if l2 < l0 then some (some 1) else some none)
  refine tr_iload_n (i := 0) dX10_allowIn_0 rfl ?_
  refine tr_iload_n (i := 1) dX10_allowIn_1 rfl ?_
  refine tr_iclt (o := none) (tgt := 10) dX10_allowIn_2 (by decide) ?_ ?_
  · exact tr_throwW (rest := []) 1 hG th_X10_378_385 rfl rfl (by decide) (by decide) (by omega) (by decide) dX10_allowIn_10 dX10_allowIn_13 dX10_allowIn_14 dX10_allowIn_17 dX10_allowIn_20
  · refine tr_iload_n (i := 0) dX10_allowIn_5 rfl ?_
    refine tr_iload_n (i := 2) dX10_allowIn_6 rfl ?_
    refine tr_icle (o := none) (tgt := 21) dX10_allowIn_7 (by decide) ?_ ?_
    · exact tr_vret rfl rfl (by decide) (by decide) dX10_allowIn_21
    · exact tr_throwW (rest := []) 1 hG th_X10_378_385 rfl rfl (by decide) (by decide) (by omega) (by decide) dX10_allowIn_10 dX10_allowIn_13 dX10_allowIn_14 dX10_allowIn_17 dX10_allowIn_20
theorem dX10_type_0 : decode cX10_type 0 = .ok (.aload_n 0, 1) := by decide +kernel
theorem dX10_type_1 : decode cX10_type 1 = .ok (.iload_n 1, 1) := by decide +kernel
theorem dX10_type_2 : decode cX10_type 2 = .ok (.invokevirtual 202, 3) := by decide +kernel
theorem dX10_type_5 : decode cX10_type 5 = .ok (.aload_n 0, 1) := by decide +kernel
theorem dX10_type_6 : decode cX10_type 6 = .ok (.iload_n 3, 1) := by decide +kernel
theorem dX10_type_7 : decode cX10_type 7 = .ok (.invokevirtual 145, 3) := by decide +kernel
theorem dX10_type_10 : decode cX10_type 10 = .ok (.aload_n 0, 1) := by decide +kernel
theorem dX10_type_11 : decode cX10_type 11 = .ok (.getfield 19, 3) := by decide +kernel
theorem dX10_type_14 : decode cX10_type 14 = .ok (.iload_n 1, 1) := by decide +kernel
theorem dX10_type_15 : decode cX10_type 15 = .ok (.invokevirtual 205, 3) := by decide +kernel
theorem dX10_type_18 : decode cX10_type 18 = .ok (.astore 4, 2) := by decide +kernel
theorem dX10_type_20 : decode cX10_type 20 = .ok (.iload_n 2, 1) := by decide +kernel
theorem dX10_type_21 : decode cX10_type 21 = .ok (.iconst 0, 1) := by decide +kernel
theorem dX10_type_22 : decode cX10_type 22 = .ok (.aload 4, 2) := by decide +kernel
theorem dX10_type_24 : decode cX10_type 24 = .ok (.getfield 209, 3) := by decide +kernel
theorem dX10_type_27 : decode cX10_type 27 = .ok (.invokestatic 316, 3) := by decide +kernel
theorem dX10_type_30 : decode cX10_type 30 = .ok (.aload 4, 2) := by decide +kernel
theorem dX10_type_32 : decode cX10_type 32 = .ok (.getfield 209, 3) := by decide +kernel
theorem dX10_type_35 : decode cX10_type 35 = .ok (.bipush 60, 2) := by decide +kernel
theorem dX10_type_37 : decode cX10_type 37 = .ok (.if_icmp .lt 6, 3) := by decide +kernel
theorem dX10_type_40 : decode cX10_type 40 = .ok (.bipush (-2), 2) := by decide +kernel
theorem dX10_type_42 : decode cX10_type 42 = .ok (.ireturn, 1) := by decide +kernel
theorem dX10_type_43 : decode cX10_type 43 = .ok (.aload_n 0, 1) := by decide +kernel
theorem dX10_type_44 : decode cX10_type 44 = .ok (.getfield 44, 3) := by decide +kernel
theorem dX10_type_47 : decode cX10_type 47 = .ok (.aload_n 0, 1) := by decide +kernel
theorem dX10_type_48 : decode cX10_type 48 = .ok (.getfield 19, 3) := by decide +kernel
theorem dX10_type_51 : decode cX10_type 51 = .ok (.invokevirtual 313, 3) := by decide +kernel
theorem dX10_type_54 : decode cX10_type 54 = .ok (.aload 4, 2) := by decide +kernel
theorem dX10_type_56 : decode cX10_type 56 = .ok (.iload_n 2, 1) := by decide +kernel
theorem dX10_type_57 : decode cX10_type 57 = .ok (.iload_n 3, 1) := by decide +kernel
theorem dX10_type_58 : decode cX10_type 58 = .ok (.invokevirtual 319, 3) := by decide +kernel
theorem dX10_type_61 : decode cX10_type 61 = .ok (.aload_n 0, 1) := by decide +kernel
theorem dX10_type_62 : decode cX10_type 62 = .ok (.getfield 60, 3) := by decide +kernel
theorem dX10_type_65 : decode cX10_type 65 = .ok (.aload 4, 2) := by decide +kernel
theorem dX10_type_67 : decode cX10_type 67 = .ok (.iconst (-1), 1) := by decide +kernel
theorem dX10_type_68 : decode cX10_type 68 = .ok (.invokevirtual 192, 3) := by decide +kernel
theorem dX10_type_71 : decode cX10_type 71 = .ok (.aload_n 0, 1) := by decide +kernel
theorem dX10_type_72 : decode cX10_type 72 = .ok (.getfield 60, 3) := by decide +kernel
theorem dX10_type_75 : decode cX10_type 75 = .ok (.getfield 212, 3) := by decide +kernel
theorem dX10_type_78 : decode cX10_type 78 = .ok (.getfield 209, 3) := by decide +kernel
theorem dX10_type_81 : decode cX10_type 81 = .ok (.ireturn, 1) := by decide +kernel
set_option maxRecDepth 100000 in
theorem sp_X10_type (G : MG) (hG : (g_l G).stackTraces = false) (d : Nat) (hd : 8 ≤ d)   (σ : MsSt) (l0 : Nat) (l1 : Int32) (l2 : Int32) (l3 : Int32) (h0 : ms_kd l0 = 11) : MsSpec G mX10_type d 3 18 [.ref l0, .int l1, .int l2, .int l3] σ ms_ui (f_X10_type σ l0 l1 l2 l3) := by
  refine ms_start (by decide +kernel) rfl rfl (Nat.le_of_ble_eq_true rfl) ?_
  show TrO G mX10_type d 3 18 0 0 ms_ui 0 [(0, .ref l0), (1, .int l1), (2, .int l2), (3, .int l3)] [] σ (ms_bt (f_X10_needLine σ l0 l1) (ms_bt (f_X10_needSign σ l0 l3) ((f_X6_lineAt σ (ms_rf l0 1) l1).bind fun v3 => ms_bt (f_X10_allowIn σ l2 0 (ms_i σ v3 1)) (if (ms_i σ v3 1) < 60 then (f_X2_record σ (ms_rf l0 4) (ms_rf l0 1)).bind fun s5 => (f_X5_insert s5 v3 l2 l3).bind fun s6 => (f_X1_derive s6 (ms_rf l0 6) v3 (-1)).bind fun s7 => some (.inl (ms_i s7 (ms_rf (ms_rf l0 6) 2) 1), s7) else some (.inl (-2), σ)) (fun e4 => some (.inr e4, σ))) (fun e2 => some (.inr e2, σ))) (fun e1 => some (.inr e1, σ)))
  refine tr_aload_n (i := 0) dX10_type_0 rfl ?_
  refine tr_iload_n (i := 1) dX10_type_1 rfl ?_
  refine tr_d_tv (ms_cV (rest := []) (al := [.int l1]) 10 (sp_X10_needLine G hG (d - 1) (by omega) σ l0 l1 h0) h0 (by decide +kernel) kl_X10_202 fv_X10_needLine dX10_type_2 (show _ = some 1 by decide +kernel) (by omega) (Nat.le_of_ble_eq_true rfl) (by decide) (by decide)) rfl (by decide) (by decide) ?_ (fun e0 r h => by cases h; rfl)
  refine tr_aload_n (i := 0) dX10_type_5 rfl ?_
  refine tr_iload_n (i := 3) dX10_type_6 rfl ?_
  refine tr_d_tv (ms_cV (rest := []) (al := [.int l3]) 10 (sp_X10_needSign G hG (d - 1) (by omega) σ l0 l3 h0) h0 (by decide +kernel) kl_X10_145 fv_X10_needSign dX10_type_7 (show _ = some 1 by decide +kernel) (by omega) (Nat.le_of_ble_eq_true rfl) (by decide) (by decide)) rfl (by decide) (by decide) ?_ (fun e0 r h => by cases h; rfl)
  refine tr_aload_n (i := 0) dX10_type_10 rfl ?_
  refine tr_getR 10 h0 fl_X10_19 (by decide +kernel) dX10_type_11 ?_
  refine tr_iload_n (i := 1) dX10_type_14 rfl ?_
  refine tr_c_a (ms_cV (rest := []) (al := [.int l1]) 6 (sp_X6_lineAt G hG (d - 1) (by omega) σ (ms_rf l0 1) l1 (rk_10_1 h0)) (rk_10_1 h0) (by decide +kernel) kl_X10_205 fv_X6_lineAt dX10_type_15 (show _ = some 1 by decide +kernel) (by omega) (Nat.le_of_ble_eq_true rfl) (by decide) (by decide)) (fun v3 e_v3 => ?_)
  refine tr_astore (lv' := [(0, .ref l0), (2, .int l2), (3, .int l3), (4, .ref v3)]) [1, 3, 4, 0] dX10_type_18 (by decide) rfl ?_
  refine tr_iload_n (i := 1) dX10_type_20 rfl ?_
  refine tr_iconst (v := 0) dX10_type_21 (by decide +kernel) ?_
  refine tr_aload (i := 3) dX10_type_22 rfl ?_
  refine tr_getI 5 (ra_X6_lineAt (rk_10_1 h0) e_v3) fl_X10_209 (by decide +kernel) dX10_type_24 ?_
  refine tr_d_tv (ms_cS (rest := []) (al := [.int l2, .int 0, .int (ms_i σ v3 1)]) (sp_X10_allowIn G hG (d - 1) (by omega) σ l2 0 (ms_i σ v3 1)) kl_X10_316 fs_X10_allowIn dX10_type_27 (show _ = some 3 by decide +kernel) (by omega) (Nat.le_of_ble_eq_true rfl) (by decide) (by decide)) rfl (by decide) (by decide) ?_ (fun e0 r h => by cases h; rfl)
  refine tr_aload (i := 3) dX10_type_30 rfl ?_
  refine tr_getI 5 (ra_X6_lineAt (rk_10_1 h0) e_v3) fl_X10_209 (by decide +kernel) dX10_type_32 ?_
  refine tr_bipush (v := 60) dX10_type_35 (by decide +kernel) ?_
  refine tr_iclt (o := none) (tgt := 43) dX10_type_37 (by decide) ?_ ?_
  · refine tr_aload_n (i := 0) dX10_type_43 rfl ?_
    refine tr_getR 10 h0 fl_X10_44 (by decide +kernel) dX10_type_44 ?_
    refine tr_aload_n (i := 0) dX10_type_47 rfl ?_
    refine tr_getR 10 h0 fl_X10_19 (by decide +kernel) dX10_type_48 ?_
    refine tr_c_wv (ms_cV (rest := []) (al := [.ref (ms_rf l0 1)]) 2 (sp_X2_record G hG (d - 1) (by omega) σ (ms_rf l0 4) (ms_rf l0 1) (rk_10_4 h0) (rk_10_1 h0)) (rk_10_4 h0) (by decide +kernel) kl_X10_313 fv_X2_record dX10_type_51 (show _ = some 1 by decide +kernel) (by omega) (Nat.le_of_ble_eq_true rfl) (by decide) (by decide)) (fun s5 => ?_)
    refine tr_aload (i := 3) dX10_type_54 rfl ?_
    refine tr_iload_n (i := 1) dX10_type_56 rfl ?_
    refine tr_iload_n (i := 2) dX10_type_57 rfl ?_
    refine tr_c_wv (ms_cV (rest := []) (al := [.int l2, .int l3]) 5 (sp_X5_insert G hG (d - 1) (by omega) s5 v3 l2 l3 (ra_X6_lineAt (rk_10_1 h0) e_v3)) (ra_X6_lineAt (rk_10_1 h0) e_v3) (by decide +kernel) kl_X10_319 fv_X5_insert dX10_type_58 (show _ = some 2 by decide +kernel) (by omega) (Nat.le_of_ble_eq_true rfl) (by decide) (by decide)) (fun s6 => ?_)
    refine tr_aload_n (i := 0) dX10_type_61 rfl ?_
    refine tr_getR 10 h0 fl_X10_60 (by decide +kernel) dX10_type_62 ?_
    refine tr_aload (i := 3) dX10_type_65 rfl ?_
    refine tr_iconst (v := (-1)) dX10_type_67 (by decide +kernel) ?_
    refine tr_c_wv (ms_cV (rest := []) (al := [.ref v3, .int (-1)]) 1 (sp_X1_derive G hG (d - 1) (by omega) s6 (ms_rf l0 6) v3 (-1) (rk_10_6 h0) (ra_X6_lineAt (rk_10_1 h0) e_v3)) (rk_10_6 h0) (by decide +kernel) kl_X10_192 fv_X1_derive dX10_type_68 (show _ = some 2 by decide +kernel) (by omega) (Nat.le_of_ble_eq_true rfl) (by decide) (by decide)) (fun s7 => ?_)
    refine tr_aload_n (i := 0) dX10_type_71 rfl ?_
    refine tr_getR 10 h0 fl_X10_60 (by decide +kernel) dX10_type_72 ?_
    refine tr_getR 1 (rk_10_6 h0) fl_X10_212 (by decide +kernel) dX10_type_75 ?_
    refine tr_getI 5 (rk_1_2 (rk_10_6 h0)) fl_X10_209 (by decide +kernel) dX10_type_78 ?_
    exact tr_iret rfl rfl (by decide) (by decide) dX10_type_81
  · refine tr_bipush (v := (-2)) dX10_type_40 (by decide +kernel) ?_
    exact tr_iret rfl rfl (by decide) (by decide) dX10_type_42
theorem dX10_erase_0 : decode cX10_erase 0 = .ok (.aload_n 0, 1) := by decide +kernel
theorem dX10_erase_1 : decode cX10_erase 1 = .ok (.iload_n 1, 1) := by decide +kernel
theorem dX10_erase_2 : decode cX10_erase 2 = .ok (.invokevirtual 202, 3) := by decide +kernel
theorem dX10_erase_5 : decode cX10_erase 5 = .ok (.aload_n 0, 1) := by decide +kernel
theorem dX10_erase_6 : decode cX10_erase 6 = .ok (.getfield 19, 3) := by decide +kernel
theorem dX10_erase_9 : decode cX10_erase 9 = .ok (.iload_n 1, 1) := by decide +kernel
theorem dX10_erase_10 : decode cX10_erase 10 = .ok (.invokevirtual 205, 3) := by decide +kernel
theorem dX10_erase_13 : decode cX10_erase 13 = .ok (.astore 4, 2) := by decide +kernel
theorem dX10_erase_15 : decode cX10_erase 15 = .ok (.iload_n 2, 1) := by decide +kernel
theorem dX10_erase_16 : decode cX10_erase 16 = .ok (.iconst 0, 1) := by decide +kernel
theorem dX10_erase_17 : decode cX10_erase 17 = .ok (.aload 4, 2) := by decide +kernel
theorem dX10_erase_19 : decode cX10_erase 19 = .ok (.getfield 209, 3) := by decide +kernel
theorem dX10_erase_22 : decode cX10_erase 22 = .ok (.iconst 1, 1) := by decide +kernel
theorem dX10_erase_23 : decode cX10_erase 23 = .ok (.isub, 1) := by decide +kernel
theorem dX10_erase_24 : decode cX10_erase 24 = .ok (.invokestatic 128, 3) := by decide +kernel
theorem dX10_erase_27 : decode cX10_erase 27 = .ok (.iload_n 3, 1) := by decide +kernel
theorem dX10_erase_28 : decode cX10_erase 28 = .ok (.iconst 0, 1) := by decide +kernel
theorem dX10_erase_29 : decode cX10_erase 29 = .ok (.aload 4, 2) := by decide +kernel
theorem dX10_erase_31 : decode cX10_erase 31 = .ok (.getfield 209, 3) := by decide +kernel
theorem dX10_erase_34 : decode cX10_erase 34 = .ok (.iconst 1, 1) := by decide +kernel
theorem dX10_erase_35 : decode cX10_erase 35 = .ok (.isub, 1) := by decide +kernel
theorem dX10_erase_36 : decode cX10_erase 36 = .ok (.invokestatic 128, 3) := by decide +kernel
theorem dX10_erase_39 : decode cX10_erase 39 = .ok (.iload_n 3, 1) := by decide +kernel
theorem dX10_erase_40 : decode cX10_erase 40 = .ok (.iload_n 2, 1) := by decide +kernel
theorem dX10_erase_41 : decode cX10_erase 41 = .ok (.aload 4, 2) := by decide +kernel
theorem dX10_erase_43 : decode cX10_erase 43 = .ok (.getfield 209, 3) := by decide +kernel
theorem dX10_erase_46 : decode cX10_erase 46 = .ok (.invokestatic 316, 3) := by decide +kernel
theorem dX10_erase_49 : decode cX10_erase 49 = .ok (.aload_n 0, 1) := by decide +kernel
theorem dX10_erase_50 : decode cX10_erase 50 = .ok (.getfield 44, 3) := by decide +kernel
theorem dX10_erase_53 : decode cX10_erase 53 = .ok (.aload_n 0, 1) := by decide +kernel
theorem dX10_erase_54 : decode cX10_erase 54 = .ok (.getfield 19, 3) := by decide +kernel
theorem dX10_erase_57 : decode cX10_erase 57 = .ok (.invokevirtual 313, 3) := by decide +kernel
theorem dX10_erase_60 : decode cX10_erase 60 = .ok (.aload 4, 2) := by decide +kernel
theorem dX10_erase_62 : decode cX10_erase 62 = .ok (.iload_n 2, 1) := by decide +kernel
theorem dX10_erase_63 : decode cX10_erase 63 = .ok (.iload_n 3, 1) := by decide +kernel
theorem dX10_erase_64 : decode cX10_erase 64 = .ok (.invokevirtual 322, 3) := by decide +kernel
theorem dX10_erase_67 : decode cX10_erase 67 = .ok (.aload 4, 2) := by decide +kernel
theorem dX10_erase_69 : decode cX10_erase 69 = .ok (.getfield 209, 3) := by decide +kernel
theorem dX10_erase_72 : decode cX10_erase 72 = .ok (.ireturn, 1) := by decide +kernel
set_option maxRecDepth 100000 in
theorem sp_X10_erase (G : MG) (hG : (g_l G).stackTraces = false) (d : Nat) (hd : 8 ≤ d)   (σ : MsSt) (l0 : Nat) (l1 : Int32) (l2 : Int32) (l3 : Int32) (h0 : ms_kd l0 = 11) : MsSpec G mX10_erase d 4 24 [.ref l0, .int l1, .int l2, .int l3] σ ms_ui (f_X10_erase σ l0 l1 l2 l3) := by
  refine ms_start (by decide +kernel) rfl rfl (Nat.le_of_ble_eq_true rfl) ?_
  show TrO G mX10_erase d 4 24 0 0 ms_ui 0 [(0, .ref l0), (1, .int l1), (2, .int l2), (3, .int l3)] [] σ (ms_bt (f_X10_needLine σ l0 l1) ((f_X6_lineAt σ (ms_rf l0 1) l1).bind fun v2 => ms_bt (f_X10_needIn σ l2 0 ((ms_i σ v2 1) - 1)) (ms_bt (f_X10_needIn σ l3 0 ((ms_i σ v2 1) - 1)) (ms_bt (f_X10_allowIn σ l3 l2 (ms_i σ v2 1)) ((f_X2_record σ (ms_rf l0 4) (ms_rf l0 1)).bind fun s6 => (f_X5_cut s6 v2 l2 l3).bind fun s7 => some (.inl (ms_i s7 v2 1), s7)) (fun e5 => some (.inr e5, σ))) (fun e4 => some (.inr e4, σ))) (fun e3 => some (.inr e3, σ))) (fun e1 => some (.inr e1, σ)))
  refine tr_aload_n (i := 0) dX10_erase_0 rfl ?_
  refine tr_iload_n (i := 1) dX10_erase_1 rfl ?_
  refine tr_d_tv (ms_cV (rest := []) (al := [.int l1]) 10 (sp_X10_needLine G hG (d - 1) (by omega) σ l0 l1 h0) h0 (by decide +kernel) kl_X10_202 fv_X10_needLine dX10_erase_2 (show _ = some 1 by decide +kernel) (by omega) (Nat.le_of_ble_eq_true rfl) (by decide) (by decide)) rfl (by decide) (by decide) ?_ (fun e0 r h => by cases h; rfl)
  refine tr_aload_n (i := 0) dX10_erase_5 rfl ?_
  refine tr_getR 10 h0 fl_X10_19 (by decide +kernel) dX10_erase_6 ?_
  refine tr_iload_n (i := 1) dX10_erase_9 rfl ?_
  refine tr_c_a (ms_cV (rest := []) (al := [.int l1]) 6 (sp_X6_lineAt G hG (d - 1) (by omega) σ (ms_rf l0 1) l1 (rk_10_1 h0)) (rk_10_1 h0) (by decide +kernel) kl_X10_205 fv_X6_lineAt dX10_erase_10 (show _ = some 1 by decide +kernel) (by omega) (Nat.le_of_ble_eq_true rfl) (by decide) (by decide)) (fun v2 e_v2 => ?_)
  refine tr_astore (lv' := [(0, .ref l0), (2, .int l2), (3, .int l3), (4, .ref v2)]) [1, 3, 4, 0] dX10_erase_13 (by decide) rfl ?_
  refine tr_iload_n (i := 1) dX10_erase_15 rfl ?_
  refine tr_iconst (v := 0) dX10_erase_16 (by decide +kernel) ?_
  refine tr_aload (i := 3) dX10_erase_17 rfl ?_
  refine tr_getI 5 (ra_X6_lineAt (rk_10_1 h0) e_v2) fl_X10_209 (by decide +kernel) dX10_erase_19 ?_
  refine tr_iconst (v := 1) dX10_erase_22 (by decide +kernel) ?_
  refine tr_isub dX10_erase_23 ?_
  refine tr_d_tv (ms_cS (rest := []) (al := [.int l2, .int 0, .int ((ms_i σ v2 1) - 1)]) (sp_X10_needIn G hG (d - 1) (by omega) σ l2 0 ((ms_i σ v2 1) - 1)) kl_X10_128 fs_X10_needIn dX10_erase_24 (show _ = some 3 by decide +kernel) (by omega) (Nat.le_of_ble_eq_true rfl) (by decide) (by decide)) rfl (by decide) (by decide) ?_ (fun e0 r h => by cases h; rfl)
  refine tr_iload_n (i := 2) dX10_erase_27 rfl ?_
  refine tr_iconst (v := 0) dX10_erase_28 (by decide +kernel) ?_
  refine tr_aload (i := 3) dX10_erase_29 rfl ?_
  refine tr_getI 5 (ra_X6_lineAt (rk_10_1 h0) e_v2) fl_X10_209 (by decide +kernel) dX10_erase_31 ?_
  refine tr_iconst (v := 1) dX10_erase_34 (by decide +kernel) ?_
  refine tr_isub dX10_erase_35 ?_
  refine tr_d_tv (ms_cS (rest := []) (al := [.int l3, .int 0, .int ((ms_i σ v2 1) - 1)]) (sp_X10_needIn G hG (d - 1) (by omega) σ l3 0 ((ms_i σ v2 1) - 1)) kl_X10_128 fs_X10_needIn dX10_erase_36 (show _ = some 3 by decide +kernel) (by omega) (Nat.le_of_ble_eq_true rfl) (by decide) (by decide)) rfl (by decide) (by decide) ?_ (fun e0 r h => by cases h; rfl)
  refine tr_iload_n (i := 2) dX10_erase_39 rfl ?_
  refine tr_iload_n (i := 1) dX10_erase_40 rfl ?_
  refine tr_aload (i := 3) dX10_erase_41 rfl ?_
  refine tr_getI 5 (ra_X6_lineAt (rk_10_1 h0) e_v2) fl_X10_209 (by decide +kernel) dX10_erase_43 ?_
  refine tr_d_tv (ms_cS (rest := []) (al := [.int l3, .int l2, .int (ms_i σ v2 1)]) (sp_X10_allowIn G hG (d - 1) (by omega) σ l3 l2 (ms_i σ v2 1)) kl_X10_316 fs_X10_allowIn dX10_erase_46 (show _ = some 3 by decide +kernel) (by omega) (Nat.le_of_ble_eq_true rfl) (by decide) (by decide)) rfl (by decide) (by decide) ?_ (fun e0 r h => by cases h; rfl)
  refine tr_aload_n (i := 0) dX10_erase_49 rfl ?_
  refine tr_getR 10 h0 fl_X10_44 (by decide +kernel) dX10_erase_50 ?_
  refine tr_aload_n (i := 0) dX10_erase_53 rfl ?_
  refine tr_getR 10 h0 fl_X10_19 (by decide +kernel) dX10_erase_54 ?_
  refine tr_c_wv (ms_cV (rest := []) (al := [.ref (ms_rf l0 1)]) 2 (sp_X2_record G hG (d - 1) (by omega) σ (ms_rf l0 4) (ms_rf l0 1) (rk_10_4 h0) (rk_10_1 h0)) (rk_10_4 h0) (by decide +kernel) kl_X10_313 fv_X2_record dX10_erase_57 (show _ = some 1 by decide +kernel) (by omega) (Nat.le_of_ble_eq_true rfl) (by decide) (by decide)) (fun s6 => ?_)
  refine tr_aload (i := 3) dX10_erase_60 rfl ?_
  refine tr_iload_n (i := 1) dX10_erase_62 rfl ?_
  refine tr_iload_n (i := 2) dX10_erase_63 rfl ?_
  refine tr_c_wv (ms_cV (rest := []) (al := [.int l2, .int l3]) 5 (sp_X5_cut G hG (d - 1) (by omega) s6 v2 l2 l3 (ra_X6_lineAt (rk_10_1 h0) e_v2)) (ra_X6_lineAt (rk_10_1 h0) e_v2) (by decide +kernel) kl_X10_322 fv_X5_cut dX10_erase_64 (show _ = some 2 by decide +kernel) (by omega) (Nat.le_of_ble_eq_true rfl) (by decide) (by decide)) (fun s7 => ?_)
  refine tr_aload (i := 3) dX10_erase_67 rfl ?_
  refine tr_getI 5 (ra_X6_lineAt (rk_10_1 h0) e_v2) fl_X10_209 (by decide +kernel) dX10_erase_69 ?_
  exact tr_iret rfl rfl (by decide) (by decide) dX10_erase_72
theorem dX10_stack_0 : decode cX10_stack 0 = .ok (.aload_n 0, 1) := by decide +kernel
theorem dX10_stack_1 : decode cX10_stack 1 = .ok (.iload_n 1, 1) := by decide +kernel
theorem dX10_stack_2 : decode cX10_stack 2 = .ok (.iload_n 2, 1) := by decide +kernel
theorem dX10_stack_3 : decode cX10_stack 3 = .ok (.invokevirtual 245, 3) := by decide +kernel
theorem dX10_stack_6 : decode cX10_stack 6 = .ok (.aload_n 0, 1) := by decide +kernel
theorem dX10_stack_7 : decode cX10_stack 7 = .ok (.iload_n 3, 1) := by decide +kernel
theorem dX10_stack_8 : decode cX10_stack 8 = .ok (.invokevirtual 145, 3) := by decide +kernel
theorem dX10_stack_11 : decode cX10_stack 11 = .ok (.aload_n 0, 1) := by decide +kernel
theorem dX10_stack_12 : decode cX10_stack 12 = .ok (.getfield 19, 3) := by decide +kernel
theorem dX10_stack_15 : decode cX10_stack 15 = .ok (.iload_n 3, 1) := by decide +kernel
theorem dX10_stack_16 : decode cX10_stack 16 = .ok (.invokevirtual 306, 3) := by decide +kernel
theorem dX10_stack_19 : decode cX10_stack 19 = .ok (.iconst 1, 1) := by decide +kernel
theorem dX10_stack_20 : decode cX10_stack 20 = .ok (.iconst 1, 1) := by decide +kernel
theorem dX10_stack_21 : decode cX10_stack 21 = .ok (.invokestatic 316, 3) := by decide +kernel
theorem dX10_stack_24 : decode cX10_stack 24 = .ok (.aload_n 0, 1) := by decide +kernel
theorem dX10_stack_25 : decode cX10_stack 25 = .ok (.getfield 60, 3) := by decide +kernel
theorem dX10_stack_28 : decode cX10_stack 28 = .ok (.getfield 212, 3) := by decide +kernel
theorem dX10_stack_31 : decode cX10_stack 31 = .ok (.getfield 209, 3) := by decide +kernel
theorem dX10_stack_34 : decode cX10_stack 34 = .ok (.bipush 60, 2) := by decide +kernel
theorem dX10_stack_36 : decode cX10_stack 36 = .ok (.if_icmp .lt 6, 3) := by decide +kernel
theorem dX10_stack_39 : decode cX10_stack 39 = .ok (.bipush (-2), 2) := by decide +kernel
theorem dX10_stack_41 : decode cX10_stack 41 = .ok (.ireturn, 1) := by decide +kernel
theorem dX10_stack_42 : decode cX10_stack 42 = .ok (.aload_n 0, 1) := by decide +kernel
theorem dX10_stack_43 : decode cX10_stack 43 = .ok (.getfield 44, 3) := by decide +kernel
theorem dX10_stack_46 : decode cX10_stack 46 = .ok (.aload_n 0, 1) := by decide +kernel
theorem dX10_stack_47 : decode cX10_stack 47 = .ok (.getfield 19, 3) := by decide +kernel
theorem dX10_stack_50 : decode cX10_stack 50 = .ok (.invokevirtual 313, 3) := by decide +kernel
theorem dX10_stack_53 : decode cX10_stack 53 = .ok (.aload_n 0, 1) := by decide +kernel
theorem dX10_stack_54 : decode cX10_stack 54 = .ok (.getfield 60, 3) := by decide +kernel
theorem dX10_stack_57 : decode cX10_stack 57 = .ok (.iload_n 2, 1) := by decide +kernel
theorem dX10_stack_58 : decode cX10_stack 58 = .ok (.aload_n 0, 1) := by decide +kernel
theorem dX10_stack_59 : decode cX10_stack 59 = .ok (.getfield 19, 3) := by decide +kernel
theorem dX10_stack_62 : decode cX10_stack 62 = .ok (.iload_n 3, 1) := by decide +kernel
theorem dX10_stack_63 : decode cX10_stack 63 = .ok (.invokevirtual 325, 3) := by decide +kernel
theorem dX10_stack_66 : decode cX10_stack 66 = .ok (.invokevirtual 328, 3) := by decide +kernel
theorem dX10_stack_69 : decode cX10_stack 69 = .ok (.istore 4, 2) := by decide +kernel
theorem dX10_stack_71 : decode cX10_stack 71 = .ok (.aload_n 0, 1) := by decide +kernel
theorem dX10_stack_72 : decode cX10_stack 72 = .ok (.getfield 19, 3) := by decide +kernel
theorem dX10_stack_75 : decode cX10_stack 75 = .ok (.iload_n 1, 1) := by decide +kernel
theorem dX10_stack_76 : decode cX10_stack 76 = .ok (.invokevirtual 205, 3) := by decide +kernel
theorem dX10_stack_79 : decode cX10_stack 79 = .ok (.astore 5, 2) := by decide +kernel
theorem dX10_stack_81 : decode cX10_stack 81 = .ok (.aload 5, 2) := by decide +kernel
theorem dX10_stack_83 : decode cX10_stack 83 = .ok (.aload_n 0, 1) := by decide +kernel
theorem dX10_stack_84 : decode cX10_stack 84 = .ok (.getfield 60, 3) := by decide +kernel
theorem dX10_stack_87 : decode cX10_stack 87 = .ok (.getfield 212, 3) := by decide +kernel
theorem dX10_stack_90 : decode cX10_stack 90 = .ok (.invokevirtual 331, 3) := by decide +kernel
theorem dX10_stack_93 : decode cX10_stack 93 = .ok (.aload 5, 2) := by decide +kernel
theorem dX10_stack_95 : decode cX10_stack 95 = .ok (.aload_n 0, 1) := by decide +kernel
theorem dX10_stack_96 : decode cX10_stack 96 = .ok (.getfield 60, 3) := by decide +kernel
theorem dX10_stack_99 : decode cX10_stack 99 = .ok (.iload_n 2, 1) := by decide +kernel
theorem dX10_stack_100 : decode cX10_stack 100 = .ok (.invokevirtual 334, 3) := by decide +kernel
theorem dX10_stack_103 : decode cX10_stack 103 = .ok (.iload 4, 2) := by decide +kernel
theorem dX10_stack_105 : decode cX10_stack 105 = .ok (.iadd, 1) := by decide +kernel
theorem dX10_stack_106 : decode cX10_stack 106 = .ok (.iload_n 3, 1) := by decide +kernel
theorem dX10_stack_107 : decode cX10_stack 107 = .ok (.invokevirtual 319, 3) := by decide +kernel
theorem dX10_stack_110 : decode cX10_stack 110 = .ok (.iload 4, 2) := by decide +kernel
theorem dX10_stack_112 : decode cX10_stack 112 = .ok (.ireturn, 1) := by decide +kernel
set_option maxRecDepth 100000 in
theorem sp_X10_stack (G : MG) (hG : (g_l G).stackTraces = false) (d : Nat) (hd : 9 ≤ d)   (σ : MsSt) (l0 : Nat) (l1 : Int32) (l2 : Int32) (l3 : Int32) (h0 : ms_kd l0 = 11) : MsSpec G mX10_stack d 4 24 [.ref l0, .int l1, .int l2, .int l3] σ ms_ui (f_X10_stack σ l0 l1 l2 l3) := by
  refine ms_start (by decide +kernel) rfl rfl (Nat.le_of_ble_eq_true rfl) ?_
  show TrO G mX10_stack d 4 24 0 0 ms_ui 0 [(0, .ref l0), (1, .int l1), (2, .int l2), (3, .int l3)] [] σ (ms_bu (f_X10_needCluster σ l0 l1 l2) (fun s2 => ms_bt (f_X10_needSign s2 l0 l3) ((f_X6_kindOf s2 (ms_rf l0 1) l3).bind fun v4 => ms_bt (f_X10_allowIn s2 v4 1 1) (if (ms_i s2 (ms_rf (ms_rf l0 6) 2) 1) < 60 then (f_X2_record s2 (ms_rf l0 4) (ms_rf l0 1)).bind fun s6 => (f_X6_classOf s6 (ms_rf l0 1) l3).bind fun v7 => (f_X1_marksUpTo s6 (ms_rf l0 6) l2 v7).bind fun v8 => (f_X6_lineAt s6 (ms_rf l0 1) l1).bind fun v9 => (f_X5_takeOver s6 v9 (ms_rf (ms_rf l0 6) 2)).bind fun s10 => (f_X1_firstMark s10 (ms_rf l0 6) l2).bind fun v11 => (f_X5_insert s10 v9 (v11 + v8) l3).bind fun s12 => some (.inl v8, s12) else some (.inl (-2), s2)) (fun e5 => some (.inr e5, s2))) (fun e3 => some (.inr e3, s2))) (fun e1 s2 => some (.inr e1, s2)))
  refine tr_aload_n (i := 0) dX10_stack_0 rfl ?_
  refine tr_iload_n (i := 1) dX10_stack_1 rfl ?_
  refine tr_iload_n (i := 2) dX10_stack_2 rfl ?_
  refine tr_d_uv (ms_cV (rest := []) (al := [.int l1, .int l2]) 10 (sp_X10_needCluster G hG (d - 1) (by omega) σ l0 l1 l2 h0) h0 (by decide +kernel) kl_X10_245 fv_X10_needCluster dX10_stack_3 (show _ = some 2 by decide +kernel) (by omega) (Nat.le_of_ble_eq_true rfl) (by decide) (by decide)) rfl (by decide) (by decide) (fun s2 => ?_) (fun e0 s0 r h => by cases h; rfl)
  refine tr_aload_n (i := 0) dX10_stack_6 rfl ?_
  refine tr_iload_n (i := 3) dX10_stack_7 rfl ?_
  refine tr_d_tv (ms_cV (rest := []) (al := [.int l3]) 10 (sp_X10_needSign G hG (d - 1) (by omega) s2 l0 l3 h0) h0 (by decide +kernel) kl_X10_145 fv_X10_needSign dX10_stack_8 (show _ = some 1 by decide +kernel) (by omega) (Nat.le_of_ble_eq_true rfl) (by decide) (by decide)) rfl (by decide) (by decide) ?_ (fun e0 r h => by cases h; rfl)
  refine tr_aload_n (i := 0) dX10_stack_11 rfl ?_
  refine tr_getR 10 h0 fl_X10_19 (by decide +kernel) dX10_stack_12 ?_
  refine tr_iload_n (i := 3) dX10_stack_15 rfl ?_
  refine tr_c_i (ms_cV (rest := []) (al := [.int l3]) 6 (sp_X6_kindOf G hG (d - 1) (by omega) s2 (ms_rf l0 1) l3 (rk_10_1 h0)) (rk_10_1 h0) (by decide +kernel) kl_X10_306 fv_X6_kindOf dX10_stack_16 (show _ = some 1 by decide +kernel) (by omega) (Nat.le_of_ble_eq_true rfl) (by decide) (by decide)) (fun v4 => ?_)
  refine tr_iconst (v := 1) dX10_stack_19 (by decide +kernel) ?_
  refine tr_iconst (v := 1) dX10_stack_20 (by decide +kernel) ?_
  refine tr_d_tv (ms_cS (rest := []) (al := [.int v4, .int 1, .int 1]) (sp_X10_allowIn G hG (d - 1) (by omega) s2 v4 1 1) kl_X10_316 fs_X10_allowIn dX10_stack_21 (show _ = some 3 by decide +kernel) (by omega) (Nat.le_of_ble_eq_true rfl) (by decide) (by decide)) rfl (by decide) (by decide) ?_ (fun e0 r h => by cases h; rfl)
  refine tr_aload_n (i := 0) dX10_stack_24 rfl ?_
  refine tr_getR 10 h0 fl_X10_60 (by decide +kernel) dX10_stack_25 ?_
  refine tr_getR 1 (rk_10_6 h0) fl_X10_212 (by decide +kernel) dX10_stack_28 ?_
  refine tr_getI 5 (rk_1_2 (rk_10_6 h0)) fl_X10_209 (by decide +kernel) dX10_stack_31 ?_
  refine tr_bipush (v := 60) dX10_stack_34 (by decide +kernel) ?_
  refine tr_iclt (o := none) (tgt := 42) dX10_stack_36 (by decide) ?_ ?_
  · refine tr_aload_n (i := 0) dX10_stack_42 rfl ?_
    refine tr_getR 10 h0 fl_X10_44 (by decide +kernel) dX10_stack_43 ?_
    refine tr_aload_n (i := 0) dX10_stack_46 rfl ?_
    refine tr_getR 10 h0 fl_X10_19 (by decide +kernel) dX10_stack_47 ?_
    refine tr_c_wv (ms_cV (rest := []) (al := [.ref (ms_rf l0 1)]) 2 (sp_X2_record G hG (d - 1) (by omega) s2 (ms_rf l0 4) (ms_rf l0 1) (rk_10_4 h0) (rk_10_1 h0)) (rk_10_4 h0) (by decide +kernel) kl_X10_313 fv_X2_record dX10_stack_50 (show _ = some 1 by decide +kernel) (by omega) (Nat.le_of_ble_eq_true rfl) (by decide) (by decide)) (fun s6 => ?_)
    refine tr_aload_n (i := 0) dX10_stack_53 rfl ?_
    refine tr_getR 10 h0 fl_X10_60 (by decide +kernel) dX10_stack_54 ?_
    refine tr_iload_n (i := 2) dX10_stack_57 rfl ?_
    refine tr_aload_n (i := 0) dX10_stack_58 rfl ?_
    refine tr_getR 10 h0 fl_X10_19 (by decide +kernel) dX10_stack_59 ?_
    refine tr_iload_n (i := 3) dX10_stack_62 rfl ?_
    refine tr_c_i (ms_cV (rest := [.int l2, .ref (ms_rf l0 6)]) (al := [.int l3]) 6 (sp_X6_classOf G hG (d - 1) (by omega) s6 (ms_rf l0 1) l3 (rk_10_1 h0)) (rk_10_1 h0) (by decide +kernel) kl_X10_325 fv_X6_classOf dX10_stack_63 (show _ = some 1 by decide +kernel) (by omega) (Nat.le_of_ble_eq_true rfl) (by decide) (by decide)) (fun v7 => ?_)
    refine tr_c_i (ms_cV (rest := []) (al := [.int l2, .int v7]) 1 (sp_X1_marksUpTo G hG (d - 1) (by omega) s6 (ms_rf l0 6) l2 v7 (rk_10_6 h0)) (rk_10_6 h0) (by decide +kernel) kl_X10_328 fv_X1_marksUpTo dX10_stack_66 (show _ = some 2 by decide +kernel) (by omega) (Nat.le_of_ble_eq_true rfl) (by decide) (by decide)) (fun v8 => ?_)
    refine tr_istore (lv' := [(0, .ref l0), (1, .int l1), (2, .int l2), (3, .int l3), (4, .int v8)]) [1, 2, 3, 4, 0] dX10_stack_69 (by decide) rfl ?_
    refine tr_aload_n (i := 0) dX10_stack_71 rfl ?_
    refine tr_getR 10 h0 fl_X10_19 (by decide +kernel) dX10_stack_72 ?_
    refine tr_iload_n (i := 1) dX10_stack_75 rfl ?_
    refine tr_c_a (ms_cV (rest := []) (al := [.int l1]) 6 (sp_X6_lineAt G hG (d - 1) (by omega) s6 (ms_rf l0 1) l1 (rk_10_1 h0)) (rk_10_1 h0) (by decide +kernel) kl_X10_205 fv_X6_lineAt dX10_stack_76 (show _ = some 1 by decide +kernel) (by omega) (Nat.le_of_ble_eq_true rfl) (by decide) (by decide)) (fun v9 e_v9 => ?_)
    refine tr_astore (lv' := [(0, .ref l0), (2, .int l2), (3, .int l3), (4, .int v8), (5, .ref v9)]) [1, 3, 4, 5, 0] dX10_stack_79 (by decide) rfl ?_
    refine tr_aload (i := 4) dX10_stack_81 rfl ?_
    refine tr_aload_n (i := 0) dX10_stack_83 rfl ?_
    refine tr_getR 10 h0 fl_X10_60 (by decide +kernel) dX10_stack_84 ?_
    refine tr_getR 1 (rk_10_6 h0) fl_X10_212 (by decide +kernel) dX10_stack_87 ?_
    refine tr_c_wv (ms_cV (rest := []) (al := [.ref (ms_rf (ms_rf l0 6) 2)]) 5 (sp_X5_takeOver G hG (d - 1) (by omega) s6 v9 (ms_rf (ms_rf l0 6) 2) (ra_X6_lineAt (rk_10_1 h0) e_v9) (rk_1_2 (rk_10_6 h0))) (ra_X6_lineAt (rk_10_1 h0) e_v9) (by decide +kernel) kl_X10_331 fv_X5_takeOver dX10_stack_90 (show _ = some 1 by decide +kernel) (by omega) (Nat.le_of_ble_eq_true rfl) (by decide) (by decide)) (fun s10 => ?_)
    refine tr_aload (i := 4) dX10_stack_93 rfl ?_
    refine tr_aload_n (i := 0) dX10_stack_95 rfl ?_
    refine tr_getR 10 h0 fl_X10_60 (by decide +kernel) dX10_stack_96 ?_
    refine tr_iload_n (i := 1) dX10_stack_99 rfl ?_
    refine tr_c_i (ms_cV (rest := [.ref v9]) (al := [.int l2]) 1 (sp_X1_firstMark G hG (d - 1) (by omega) s10 (ms_rf l0 6) l2 (rk_10_6 h0)) (rk_10_6 h0) (by decide +kernel) kl_X10_334 fv_X1_firstMark dX10_stack_100 (show _ = some 1 by decide +kernel) (by omega) (Nat.le_of_ble_eq_true rfl) (by decide) (by decide)) (fun v11 => ?_)
    refine tr_iload (i := 3) dX10_stack_103 rfl ?_
    refine tr_iadd dX10_stack_105 ?_
    refine tr_iload_n (i := 2) dX10_stack_106 rfl ?_
    refine tr_c_wv (ms_cV (rest := []) (al := [.int (v11 + v8), .int l3]) 5 (sp_X5_insert G hG (d - 1) (by omega) s10 v9 (v11 + v8) l3 (ra_X6_lineAt (rk_10_1 h0) e_v9)) (ra_X6_lineAt (rk_10_1 h0) e_v9) (by decide +kernel) kl_X10_319 fv_X5_insert dX10_stack_107 (show _ = some 2 by decide +kernel) (by omega) (Nat.le_of_ble_eq_true rfl) (by decide) (by decide)) (fun s12 => ?_)
    refine tr_iload (i := 3) dX10_stack_110 rfl ?_
    exact tr_iret rfl rfl (by decide) (by decide) dX10_stack_112
  · refine tr_bipush (v := (-2)) dX10_stack_39 (by decide +kernel) ?_
    exact tr_iret rfl rfl (by decide) (by decide) dX10_stack_41
theorem dX10_strip_0 : decode cX10_strip 0 = .ok (.aload_n 0, 1) := by decide +kernel
theorem dX10_strip_1 : decode cX10_strip 1 = .ok (.iload_n 1, 1) := by decide +kernel
theorem dX10_strip_2 : decode cX10_strip 2 = .ok (.iload_n 2, 1) := by decide +kernel
theorem dX10_strip_3 : decode cX10_strip 3 = .ok (.invokevirtual 245, 3) := by decide +kernel
theorem dX10_strip_6 : decode cX10_strip 6 = .ok (.iload_n 3, 1) := by decide +kernel
theorem dX10_strip_7 : decode cX10_strip 7 = .ok (.iconst 0, 1) := by decide +kernel
theorem dX10_strip_8 : decode cX10_strip 8 = .ok (.iconst 3, 1) := by decide +kernel
theorem dX10_strip_9 : decode cX10_strip 9 = .ok (.invokestatic 316, 3) := by decide +kernel
theorem dX10_strip_12 : decode cX10_strip 12 = .ok (.aload_n 0, 1) := by decide +kernel
theorem dX10_strip_13 : decode cX10_strip 13 = .ok (.getfield 60, 3) := by decide +kernel
theorem dX10_strip_16 : decode cX10_strip 16 = .ok (.iload_n 2, 1) := by decide +kernel
theorem dX10_strip_17 : decode cX10_strip 17 = .ok (.iload_n 3, 1) := by decide +kernel
theorem dX10_strip_18 : decode cX10_strip 18 = .ok (.invokevirtual 337, 3) := by decide +kernel
theorem dX10_strip_21 : decode cX10_strip 21 = .ok (.istore 4, 2) := by decide +kernel
theorem dX10_strip_23 : decode cX10_strip 23 = .ok (.aload_n 0, 1) := by decide +kernel
theorem dX10_strip_24 : decode cX10_strip 24 = .ok (.getfield 60, 3) := by decide +kernel
theorem dX10_strip_27 : decode cX10_strip 27 = .ok (.getfield 212, 3) := by decide +kernel
theorem dX10_strip_30 : decode cX10_strip 30 = .ok (.getfield 209, 3) := by decide +kernel
theorem dX10_strip_33 : decode cX10_strip 33 = .ok (.iload 4, 2) := by decide +kernel
theorem dX10_strip_35 : decode cX10_strip 35 = .ok (.isub, 1) := by decide +kernel
theorem dX10_strip_36 : decode cX10_strip 36 = .ok (.bipush 60, 2) := by decide +kernel
theorem dX10_strip_38 : decode cX10_strip 38 = .ok (.if_icmp .le 6, 3) := by decide +kernel
theorem dX10_strip_41 : decode cX10_strip 41 = .ok (.bipush (-2), 2) := by decide +kernel
theorem dX10_strip_43 : decode cX10_strip 43 = .ok (.ireturn, 1) := by decide +kernel
theorem dX10_strip_44 : decode cX10_strip 44 = .ok (.aload_n 0, 1) := by decide +kernel
theorem dX10_strip_45 : decode cX10_strip 45 = .ok (.getfield 44, 3) := by decide +kernel
theorem dX10_strip_48 : decode cX10_strip 48 = .ok (.aload_n 0, 1) := by decide +kernel
theorem dX10_strip_49 : decode cX10_strip 49 = .ok (.getfield 19, 3) := by decide +kernel
theorem dX10_strip_52 : decode cX10_strip 52 = .ok (.invokevirtual 313, 3) := by decide +kernel
theorem dX10_strip_55 : decode cX10_strip 55 = .ok (.aload_n 0, 1) := by decide +kernel
theorem dX10_strip_56 : decode cX10_strip 56 = .ok (.getfield 60, 3) := by decide +kernel
theorem dX10_strip_59 : decode cX10_strip 59 = .ok (.iload_n 2, 1) := by decide +kernel
theorem dX10_strip_60 : decode cX10_strip 60 = .ok (.iload_n 3, 1) := by decide +kernel
theorem dX10_strip_61 : decode cX10_strip 61 = .ok (.aload_n 0, 1) := by decide +kernel
theorem dX10_strip_62 : decode cX10_strip 62 = .ok (.getfield 19, 3) := by decide +kernel
theorem dX10_strip_65 : decode cX10_strip 65 = .ok (.iload_n 1, 1) := by decide +kernel
theorem dX10_strip_66 : decode cX10_strip 66 = .ok (.invokevirtual 205, 3) := by decide +kernel
theorem dX10_strip_69 : decode cX10_strip 69 = .ok (.invokevirtual 340, 3) := by decide +kernel
theorem dX10_strip_72 : decode cX10_strip 72 = .ok (.iload 4, 2) := by decide +kernel
theorem dX10_strip_74 : decode cX10_strip 74 = .ok (.ireturn, 1) := by decide +kernel
set_option maxRecDepth 100000 in
theorem sp_X10_strip (G : MG) (hG : (g_l G).stackTraces = false) (d : Nat) (hd : 9 ≤ d)   (σ : MsSt) (l0 : Nat) (l1 : Int32) (l2 : Int32) (l3 : Int32) (h0 : ms_kd l0 = 11) : MsSpec G mX10_strip d 3 18 [.ref l0, .int l1, .int l2, .int l3] σ ms_ui (f_X10_strip σ l0 l1 l2 l3) := by
  refine ms_start (by decide +kernel) rfl rfl (Nat.le_of_ble_eq_true rfl) ?_
  show TrO G mX10_strip d 3 18 0 0 ms_ui 0 [(0, .ref l0), (1, .int l1), (2, .int l2), (3, .int l3)] [] σ (ms_bu (f_X10_needCluster σ l0 l1 l2) (fun s2 => ms_bt (f_X10_allowIn s2 l3 0 3) ((f_X1_marksOfSide s2 (ms_rf l0 6) l2 l3).bind fun v4 => if 60 < ((ms_i s2 (ms_rf (ms_rf l0 6) 2) 1) - v4) then some (.inl (-2), s2) else (f_X2_record s2 (ms_rf l0 4) (ms_rf l0 1)).bind fun s5 => (f_X6_lineAt s5 (ms_rf l0 1) l1).bind fun v6 => (f_X1_writeWithout s5 (ms_rf l0 6) l2 l3 v6).bind fun s7 => some (.inl v4, s7)) (fun e3 => some (.inr e3, s2))) (fun e1 s2 => some (.inr e1, s2)))
  refine tr_aload_n (i := 0) dX10_strip_0 rfl ?_
  refine tr_iload_n (i := 1) dX10_strip_1 rfl ?_
  refine tr_iload_n (i := 2) dX10_strip_2 rfl ?_
  refine tr_d_uv (ms_cV (rest := []) (al := [.int l1, .int l2]) 10 (sp_X10_needCluster G hG (d - 1) (by omega) σ l0 l1 l2 h0) h0 (by decide +kernel) kl_X10_245 fv_X10_needCluster dX10_strip_3 (show _ = some 2 by decide +kernel) (by omega) (Nat.le_of_ble_eq_true rfl) (by decide) (by decide)) rfl (by decide) (by decide) (fun s2 => ?_) (fun e0 s0 r h => by cases h; rfl)
  refine tr_iload_n (i := 3) dX10_strip_6 rfl ?_
  refine tr_iconst (v := 0) dX10_strip_7 (by decide +kernel) ?_
  refine tr_iconst (v := 3) dX10_strip_8 (by decide +kernel) ?_
  refine tr_d_tv (ms_cS (rest := []) (al := [.int l3, .int 0, .int 3]) (sp_X10_allowIn G hG (d - 1) (by omega) s2 l3 0 3) kl_X10_316 fs_X10_allowIn dX10_strip_9 (show _ = some 3 by decide +kernel) (by omega) (Nat.le_of_ble_eq_true rfl) (by decide) (by decide)) rfl (by decide) (by decide) ?_ (fun e0 r h => by cases h; rfl)
  refine tr_aload_n (i := 0) dX10_strip_12 rfl ?_
  refine tr_getR 10 h0 fl_X10_60 (by decide +kernel) dX10_strip_13 ?_
  refine tr_iload_n (i := 2) dX10_strip_16 rfl ?_
  refine tr_iload_n (i := 3) dX10_strip_17 rfl ?_
  refine tr_c_i (ms_cV (rest := []) (al := [.int l2, .int l3]) 1 (sp_X1_marksOfSide G hG (d - 1) (by omega) s2 (ms_rf l0 6) l2 l3 (rk_10_6 h0)) (rk_10_6 h0) (by decide +kernel) kl_X10_337 fv_X1_marksOfSide dX10_strip_18 (show _ = some 2 by decide +kernel) (by omega) (Nat.le_of_ble_eq_true rfl) (by decide) (by decide)) (fun v4 => ?_)
  refine tr_istore (lv' := [(0, .ref l0), (1, .int l1), (2, .int l2), (3, .int l3), (4, .int v4)]) [1, 2, 3, 4, 0] dX10_strip_21 (by decide) rfl ?_
  refine tr_aload_n (i := 0) dX10_strip_23 rfl ?_
  refine tr_getR 10 h0 fl_X10_60 (by decide +kernel) dX10_strip_24 ?_
  refine tr_getR 1 (rk_10_6 h0) fl_X10_212 (by decide +kernel) dX10_strip_27 ?_
  refine tr_getI 5 (rk_1_2 (rk_10_6 h0)) fl_X10_209 (by decide +kernel) dX10_strip_30 ?_
  refine tr_iload (i := 4) dX10_strip_33 rfl ?_
  refine tr_isub dX10_strip_35 ?_
  refine tr_bipush (v := 60) dX10_strip_36 (by decide +kernel) ?_
  refine tr_icle (o := none) (tgt := 44) dX10_strip_38 (by decide) ?_ ?_
  · refine tr_aload_n (i := 0) dX10_strip_44 rfl ?_
    refine tr_getR 10 h0 fl_X10_44 (by decide +kernel) dX10_strip_45 ?_
    refine tr_aload_n (i := 0) dX10_strip_48 rfl ?_
    refine tr_getR 10 h0 fl_X10_19 (by decide +kernel) dX10_strip_49 ?_
    refine tr_c_wv (ms_cV (rest := []) (al := [.ref (ms_rf l0 1)]) 2 (sp_X2_record G hG (d - 1) (by omega) s2 (ms_rf l0 4) (ms_rf l0 1) (rk_10_4 h0) (rk_10_1 h0)) (rk_10_4 h0) (by decide +kernel) kl_X10_313 fv_X2_record dX10_strip_52 (show _ = some 1 by decide +kernel) (by omega) (Nat.le_of_ble_eq_true rfl) (by decide) (by decide)) (fun s5 => ?_)
    refine tr_aload_n (i := 0) dX10_strip_55 rfl ?_
    refine tr_getR 10 h0 fl_X10_60 (by decide +kernel) dX10_strip_56 ?_
    refine tr_iload_n (i := 2) dX10_strip_59 rfl ?_
    refine tr_iload_n (i := 3) dX10_strip_60 rfl ?_
    refine tr_aload_n (i := 0) dX10_strip_61 rfl ?_
    refine tr_getR 10 h0 fl_X10_19 (by decide +kernel) dX10_strip_62 ?_
    refine tr_iload_n (i := 1) dX10_strip_65 rfl ?_
    refine tr_c_a (ms_cV (rest := [.int l3, .int l2, .ref (ms_rf l0 6)]) (al := [.int l1]) 6 (sp_X6_lineAt G hG (d - 1) (by omega) s5 (ms_rf l0 1) l1 (rk_10_1 h0)) (rk_10_1 h0) (by decide +kernel) kl_X10_205 fv_X6_lineAt dX10_strip_66 (show _ = some 1 by decide +kernel) (by omega) (Nat.le_of_ble_eq_true rfl) (by decide) (by decide)) (fun v6 e_v6 => ?_)
    refine tr_c_wv (ms_cV (rest := []) (al := [.int l2, .int l3, .ref v6]) 1 (sp_X1_writeWithout G hG (d - 1) (by omega) s5 (ms_rf l0 6) l2 l3 v6 (rk_10_6 h0) (ra_X6_lineAt (rk_10_1 h0) e_v6)) (rk_10_6 h0) (by decide +kernel) kl_X10_340 fv_X1_writeWithout dX10_strip_69 (show _ = some 3 by decide +kernel) (by omega) (Nat.le_of_ble_eq_true rfl) (by decide) (by decide)) (fun s7 => ?_)
    refine tr_iload (i := 4) dX10_strip_72 rfl ?_
    exact tr_iret rfl rfl (by decide) (by decide) dX10_strip_74
  · refine tr_bipush (v := (-2)) dX10_strip_41 (by decide +kernel) ?_
    exact tr_iret rfl rfl (by decide) (by decide) dX10_strip_43
theorem dX10_rewrite_0 : decode cX10_rewrite 0 = .ok (.aload_n 0, 1) := by decide +kernel
theorem dX10_rewrite_1 : decode cX10_rewrite 1 = .ok (.iload_n 1, 1) := by decide +kernel
theorem dX10_rewrite_2 : decode cX10_rewrite 2 = .ok (.iload_n 2, 1) := by decide +kernel
theorem dX10_rewrite_3 : decode cX10_rewrite 3 = .ok (.invokevirtual 233, 3) := by decide +kernel
theorem dX10_rewrite_6 : decode cX10_rewrite 6 = .ok (.astore_n 3, 1) := by decide +kernel
theorem dX10_rewrite_7 : decode cX10_rewrite 7 = .ok (.aload_n 3, 1) := by decide +kernel
theorem dX10_rewrite_8 : decode cX10_rewrite 8 = .ok (.getfield 209, 3) := by decide +kernel
theorem dX10_rewrite_11 : decode cX10_rewrite 11 = .ok (.bipush 60, 2) := by decide +kernel
theorem dX10_rewrite_13 : decode cX10_rewrite 13 = .ok (.if_icmp .le 6, 3) := by decide +kernel
theorem dX10_rewrite_16 : decode cX10_rewrite 16 = .ok (.bipush (-2), 2) := by decide +kernel
theorem dX10_rewrite_18 : decode cX10_rewrite 18 = .ok (.ireturn, 1) := by decide +kernel
theorem dX10_rewrite_19 : decode cX10_rewrite 19 = .ok (.aload_n 0, 1) := by decide +kernel
theorem dX10_rewrite_20 : decode cX10_rewrite 20 = .ok (.getfield 44, 3) := by decide +kernel
theorem dX10_rewrite_23 : decode cX10_rewrite 23 = .ok (.aload_n 0, 1) := by decide +kernel
theorem dX10_rewrite_24 : decode cX10_rewrite 24 = .ok (.getfield 19, 3) := by decide +kernel
theorem dX10_rewrite_27 : decode cX10_rewrite 27 = .ok (.invokevirtual 313, 3) := by decide +kernel
theorem dX10_rewrite_30 : decode cX10_rewrite 30 = .ok (.aload_n 0, 1) := by decide +kernel
theorem dX10_rewrite_31 : decode cX10_rewrite 31 = .ok (.getfield 19, 3) := by decide +kernel
theorem dX10_rewrite_34 : decode cX10_rewrite 34 = .ok (.iload_n 1, 1) := by decide +kernel
theorem dX10_rewrite_35 : decode cX10_rewrite 35 = .ok (.invokevirtual 205, 3) := by decide +kernel
theorem dX10_rewrite_38 : decode cX10_rewrite 38 = .ok (.aload_n 3, 1) := by decide +kernel
theorem dX10_rewrite_39 : decode cX10_rewrite 39 = .ok (.invokevirtual 331, 3) := by decide +kernel
theorem dX10_rewrite_42 : decode cX10_rewrite 42 = .ok (.aload_n 3, 1) := by decide +kernel
theorem dX10_rewrite_43 : decode cX10_rewrite 43 = .ok (.getfield 209, 3) := by decide +kernel
theorem dX10_rewrite_46 : decode cX10_rewrite 46 = .ok (.ireturn, 1) := by decide +kernel
set_option maxRecDepth 100000 in
theorem sp_X10_rewrite (G : MG) (hG : (g_l G).stackTraces = false) (d : Nat) (hd : 6 ≤ d)   (σ : MsSt) (l0 : Nat) (l1 : Int32) (l2 : Int32) (h0 : ms_kd l0 = 11) : MsSpec G mX10_rewrite d 0 0 [.ref l0, .int l1, .int l2] σ ms_wi (f_X10_rewrite σ l0 l1 l2) := by
  refine ms_start (by decide +kernel) rfl rfl (Nat.le_of_ble_eq_true rfl) ?_
  show TrO G mX10_rewrite d 0 0 0 0 ms_wi 0 [(0, .ref l0), (1, .int l1), (2, .int l2)] [] σ (ms_b2 (f_X10_rowOf σ l0 l1 l2) fun v1 s2 => if 60 < (ms_i s2 v1 1) then some ((-2), s2) else (f_X2_record s2 (ms_rf l0 4) (ms_rf l0 1)).bind fun s3 => (f_X6_lineAt s3 (ms_rf l0 1) l1).bind fun v4 => (f_X5_takeOver s3 v4 v1).bind fun s5 => some ((ms_i s5 v1 1), s5))
  refine tr_aload_n (i := 0) dX10_rewrite_0 rfl ?_
  refine tr_iload_n (i := 1) dX10_rewrite_1 rfl ?_
  refine tr_iload_n (i := 2) dX10_rewrite_2 rfl ?_
  refine tr_d_wa (ms_cV (rest := []) (al := [.int l1, .int l2]) 10 (sp_X10_rowOf G hG (d - 1) (by omega) σ l0 l1 l2 h0) h0 (by decide +kernel) kl_X10_233 fv_X10_rowOf dX10_rewrite_3 (show _ = some 2 by decide +kernel) (by omega) (Nat.le_of_ble_eq_true rfl) (by decide) (by decide)) (fun v1 s2 e_v1 => ?_)
  refine tr_astore_n (lv' := [(0, .ref l0), (1, .int l1), (3, .ref v1)]) [1, 2, 0] dX10_rewrite_6 (by decide) rfl ?_
  refine tr_aload_n (i := 2) dX10_rewrite_7 rfl ?_
  refine tr_getI 5 (ra_X10_rowOf h0 e_v1) fl_X10_209 (by decide +kernel) dX10_rewrite_8 ?_
  refine tr_bipush (v := 60) dX10_rewrite_11 (by decide +kernel) ?_
  refine tr_icle (o := none) (tgt := 19) dX10_rewrite_13 (by decide) ?_ ?_
  · refine tr_aload_n (i := 0) dX10_rewrite_19 rfl ?_
    refine tr_getR 10 h0 fl_X10_44 (by decide +kernel) dX10_rewrite_20 ?_
    refine tr_aload_n (i := 0) dX10_rewrite_23 rfl ?_
    refine tr_getR 10 h0 fl_X10_19 (by decide +kernel) dX10_rewrite_24 ?_
    refine tr_c_wv (ms_cV (rest := []) (al := [.ref (ms_rf l0 1)]) 2 (sp_X2_record G hG (d - 1) (by omega) s2 (ms_rf l0 4) (ms_rf l0 1) (rk_10_4 h0) (rk_10_1 h0)) (rk_10_4 h0) (by decide +kernel) kl_X10_313 fv_X2_record dX10_rewrite_27 (show _ = some 1 by decide +kernel) (by omega) (Nat.le_of_ble_eq_true rfl) (by decide) (by decide)) (fun s3 => ?_)
    refine tr_aload_n (i := 0) dX10_rewrite_30 rfl ?_
    refine tr_getR 10 h0 fl_X10_19 (by decide +kernel) dX10_rewrite_31 ?_
    refine tr_iload_n (i := 1) dX10_rewrite_34 rfl ?_
    refine tr_c_a (ms_cV (rest := []) (al := [.int l1]) 6 (sp_X6_lineAt G hG (d - 1) (by omega) s3 (ms_rf l0 1) l1 (rk_10_1 h0)) (rk_10_1 h0) (by decide +kernel) kl_X10_205 fv_X6_lineAt dX10_rewrite_35 (show _ = some 1 by decide +kernel) (by omega) (Nat.le_of_ble_eq_true rfl) (by decide) (by decide)) (fun v4 e_v4 => ?_)
    refine tr_aload_n (i := 2) dX10_rewrite_38 rfl ?_
    refine tr_c_wv (ms_cV (rest := []) (al := [.ref v1]) 5 (sp_X5_takeOver G hG (d - 1) (by omega) s3 v4 v1 (ra_X6_lineAt (rk_10_1 h0) e_v4) (ra_X10_rowOf h0 e_v1)) (ra_X6_lineAt (rk_10_1 h0) e_v4) (by decide +kernel) kl_X10_331 fv_X5_takeOver dX10_rewrite_39 (show _ = some 1 by decide +kernel) (by omega) (Nat.le_of_ble_eq_true rfl) (by decide) (by decide)) (fun s5 => ?_)
    refine tr_aload_n (i := 2) dX10_rewrite_42 rfl ?_
    refine tr_getI 5 (ra_X10_rowOf h0 e_v1) fl_X10_209 (by decide +kernel) dX10_rewrite_43 ?_
    exact tr_iret rfl rfl (by decide) (by decide) dX10_rewrite_46
  · refine tr_bipush (v := (-2)) dX10_rewrite_16 (by decide +kernel) ?_
    exact tr_iret rfl rfl (by decide) (by decide) dX10_rewrite_18
theorem dX10_decompose_0 : decode cX10_decompose 0 = .ok (.aload_n 0, 1) := by decide +kernel
theorem dX10_decompose_1 : decode cX10_decompose 1 = .ok (.iload_n 1, 1) := by decide +kernel
theorem dX10_decompose_2 : decode cX10_decompose 2 = .ok (.invokevirtual 202, 3) := by decide +kernel
theorem dX10_decompose_5 : decode cX10_decompose 5 = .ok (.aload_n 0, 1) := by decide +kernel
theorem dX10_decompose_6 : decode cX10_decompose 6 = .ok (.iload_n 1, 1) := by decide +kernel
theorem dX10_decompose_7 : decode cX10_decompose 7 = .ok (.iconst 1, 1) := by decide +kernel
theorem dX10_decompose_8 : decode cX10_decompose 8 = .ok (.invokevirtual 344, 3) := by decide +kernel
theorem dX10_decompose_11 : decode cX10_decompose 11 = .ok (.ireturn, 1) := by decide +kernel
set_option maxRecDepth 100000 in
theorem sp_X10_decompose (G : MG) (hG : (g_l G).stackTraces = false) (d : Nat) (hd : 8 ≤ d)   (σ : MsSt) (l0 : Nat) (l1 : Int32) (h0 : ms_kd l0 = 11) : MsSpec G mX10_decompose d 1 6 [.ref l0, .int l1] σ ms_ui (f_X10_decompose σ l0 l1) := by
  refine ms_start (by decide +kernel) rfl rfl (Nat.le_of_ble_eq_true rfl) ?_
  show TrO G mX10_decompose d 1 6 0 0 ms_ui 0 [(0, .ref l0), (1, .int l1)] [] σ (ms_bt (f_X10_needLine σ l0 l1) (ms_b2 (f_X10_rewrite σ l0 l1 1) fun v2 s3 => some (.inl v2, s3)) (fun e1 => some (.inr e1, σ)))
  refine tr_aload_n (i := 0) dX10_decompose_0 rfl ?_
  refine tr_iload_n (i := 1) dX10_decompose_1 rfl ?_
  refine tr_d_tv (ms_cV (rest := []) (al := [.int l1]) 10 (sp_X10_needLine G hG (d - 1) (by omega) σ l0 l1 h0) h0 (by decide +kernel) kl_X10_202 fv_X10_needLine dX10_decompose_2 (show _ = some 1 by decide +kernel) (by omega) (Nat.le_of_ble_eq_true rfl) (by decide) (by decide)) rfl (by decide) (by decide) ?_ (fun e0 r h => by cases h; rfl)
  refine tr_aload_n (i := 0) dX10_decompose_5 rfl ?_
  refine tr_iload_n (i := 1) dX10_decompose_6 rfl ?_
  refine tr_iconst (v := 1) dX10_decompose_7 (by decide +kernel) ?_
  refine tr_d_wi (ms_cV (rest := []) (al := [.int l1, .int 1]) 10 (sp_X10_rewrite G hG (d - 1) (by omega) σ l0 l1 1 h0) h0 (by decide +kernel) kl_X10_344 fv_X10_rewrite dX10_decompose_8 (show _ = some 2 by decide +kernel) (by omega) (Nat.le_of_ble_eq_true rfl) (by decide) (by decide)) (fun v2 s3 => ?_)
  exact tr_iret rfl rfl (by decide) (by decide) dX10_decompose_11
theorem dX10_compose_0 : decode cX10_compose 0 = .ok (.aload_n 0, 1) := by decide +kernel
theorem dX10_compose_1 : decode cX10_compose 1 = .ok (.iload_n 1, 1) := by decide +kernel
theorem dX10_compose_2 : decode cX10_compose 2 = .ok (.invokevirtual 202, 3) := by decide +kernel
theorem dX10_compose_5 : decode cX10_compose 5 = .ok (.aload_n 0, 1) := by decide +kernel
theorem dX10_compose_6 : decode cX10_compose 6 = .ok (.iload_n 1, 1) := by decide +kernel
theorem dX10_compose_7 : decode cX10_compose 7 = .ok (.iconst 2, 1) := by decide +kernel
theorem dX10_compose_8 : decode cX10_compose 8 = .ok (.invokevirtual 344, 3) := by decide +kernel
theorem dX10_compose_11 : decode cX10_compose 11 = .ok (.ireturn, 1) := by decide +kernel
set_option maxRecDepth 100000 in
theorem sp_X10_compose (G : MG) (hG : (g_l G).stackTraces = false) (d : Nat) (hd : 8 ≤ d)   (σ : MsSt) (l0 : Nat) (l1 : Int32) (h0 : ms_kd l0 = 11) : MsSpec G mX10_compose d 1 6 [.ref l0, .int l1] σ ms_ui (f_X10_compose σ l0 l1) := by
  refine ms_start (by decide +kernel) rfl rfl (Nat.le_of_ble_eq_true rfl) ?_
  show TrO G mX10_compose d 1 6 0 0 ms_ui 0 [(0, .ref l0), (1, .int l1)] [] σ (ms_bt (f_X10_needLine σ l0 l1) (ms_b2 (f_X10_rewrite σ l0 l1 2) fun v2 s3 => some (.inl v2, s3)) (fun e1 => some (.inr e1, σ)))
  refine tr_aload_n (i := 0) dX10_compose_0 rfl ?_
  refine tr_iload_n (i := 1) dX10_compose_1 rfl ?_
  refine tr_d_tv (ms_cV (rest := []) (al := [.int l1]) 10 (sp_X10_needLine G hG (d - 1) (by omega) σ l0 l1 h0) h0 (by decide +kernel) kl_X10_202 fv_X10_needLine dX10_compose_2 (show _ = some 1 by decide +kernel) (by omega) (Nat.le_of_ble_eq_true rfl) (by decide) (by decide)) rfl (by decide) (by decide) ?_ (fun e0 r h => by cases h; rfl)
  refine tr_aload_n (i := 0) dX10_compose_5 rfl ?_
  refine tr_iload_n (i := 1) dX10_compose_6 rfl ?_
  refine tr_iconst (v := 2) dX10_compose_7 (by decide +kernel) ?_
  refine tr_d_wi (ms_cV (rest := []) (al := [.int l1, .int 2]) 10 (sp_X10_rewrite G hG (d - 1) (by omega) σ l0 l1 2 h0) h0 (by decide +kernel) kl_X10_344 fv_X10_rewrite dX10_compose_8 (show _ = some 2 by decide +kernel) (by omega) (Nat.le_of_ble_eq_true rfl) (by decide) (by decide)) (fun v2 s3 => ?_)
  exact tr_iret rfl rfl (by decide) (by decide) dX10_compose_11
theorem dX10_join_0 : decode cX10_join 0 = .ok (.aload_n 0, 1) := by decide +kernel
theorem dX10_join_1 : decode cX10_join 1 = .ok (.iload_n 1, 1) := by decide +kernel
theorem dX10_join_2 : decode cX10_join 2 = .ok (.invokevirtual 202, 3) := by decide +kernel
theorem dX10_join_5 : decode cX10_join 5 = .ok (.aload_n 0, 1) := by decide +kernel
theorem dX10_join_6 : decode cX10_join 6 = .ok (.iload_n 2, 1) := by decide +kernel
theorem dX10_join_7 : decode cX10_join 7 = .ok (.invokevirtual 202, 3) := by decide +kernel
theorem dX10_join_10 : decode cX10_join 10 = .ok (.aload_n 0, 1) := by decide +kernel
theorem dX10_join_11 : decode cX10_join 11 = .ok (.getfield 19, 3) := by decide +kernel
theorem dX10_join_14 : decode cX10_join 14 = .ok (.iload_n 1, 1) := by decide +kernel
theorem dX10_join_15 : decode cX10_join 15 = .ok (.invokevirtual 205, 3) := by decide +kernel
theorem dX10_join_18 : decode cX10_join 18 = .ok (.astore_n 3, 1) := by decide +kernel
theorem dX10_join_19 : decode cX10_join 19 = .ok (.aload_n 0, 1) := by decide +kernel
theorem dX10_join_20 : decode cX10_join 20 = .ok (.getfield 19, 3) := by decide +kernel
theorem dX10_join_23 : decode cX10_join 23 = .ok (.iload_n 2, 1) := by decide +kernel
theorem dX10_join_24 : decode cX10_join 24 = .ok (.invokevirtual 205, 3) := by decide +kernel
theorem dX10_join_27 : decode cX10_join 27 = .ok (.astore 4, 2) := by decide +kernel
theorem dX10_join_29 : decode cX10_join 29 = .ok (.aload_n 3, 1) := by decide +kernel
theorem dX10_join_30 : decode cX10_join 30 = .ok (.getfield 209, 3) := by decide +kernel
theorem dX10_join_33 : decode cX10_join 33 = .ok (.aload 4, 2) := by decide +kernel
theorem dX10_join_35 : decode cX10_join 35 = .ok (.getfield 209, 3) := by decide +kernel
theorem dX10_join_38 : decode cX10_join 38 = .ok (.iadd, 1) := by decide +kernel
theorem dX10_join_39 : decode cX10_join 39 = .ok (.bipush 60, 2) := by decide +kernel
theorem dX10_join_41 : decode cX10_join 41 = .ok (.if_icmp .le 6, 3) := by decide +kernel
theorem dX10_join_44 : decode cX10_join 44 = .ok (.bipush (-2), 2) := by decide +kernel
theorem dX10_join_46 : decode cX10_join 46 = .ok (.ireturn, 1) := by decide +kernel
theorem dX10_join_47 : decode cX10_join 47 = .ok (.aload_n 0, 1) := by decide +kernel
theorem dX10_join_48 : decode cX10_join 48 = .ok (.getfield 44, 3) := by decide +kernel
theorem dX10_join_51 : decode cX10_join 51 = .ok (.aload_n 0, 1) := by decide +kernel
theorem dX10_join_52 : decode cX10_join 52 = .ok (.getfield 19, 3) := by decide +kernel
theorem dX10_join_55 : decode cX10_join 55 = .ok (.invokevirtual 313, 3) := by decide +kernel
theorem dX10_join_58 : decode cX10_join 58 = .ok (.aload_n 3, 1) := by decide +kernel
theorem dX10_join_59 : decode cX10_join 59 = .ok (.aload 4, 2) := by decide +kernel
theorem dX10_join_61 : decode cX10_join 61 = .ok (.invokevirtual 347, 3) := by decide +kernel
theorem dX10_join_64 : decode cX10_join 64 = .ok (.aload_n 3, 1) := by decide +kernel
theorem dX10_join_65 : decode cX10_join 65 = .ok (.getfield 209, 3) := by decide +kernel
theorem dX10_join_68 : decode cX10_join 68 = .ok (.ireturn, 1) := by decide +kernel
set_option maxRecDepth 100000 in
theorem sp_X10_join (G : MG) (hG : (g_l G).stackTraces = false) (d : Nat) (hd : 8 ≤ d)   (σ : MsSt) (l0 : Nat) (l1 : Int32) (l2 : Int32) (h0 : ms_kd l0 = 11) : MsSpec G mX10_join d 2 12 [.ref l0, .int l1, .int l2] σ ms_ui (f_X10_join σ l0 l1 l2) := by
  refine ms_start (by decide +kernel) rfl rfl (Nat.le_of_ble_eq_true rfl) ?_
  show TrO G mX10_join d 2 12 0 0 ms_ui 0 [(0, .ref l0), (1, .int l1), (2, .int l2)] [] σ (ms_bt (f_X10_needLine σ l0 l1) (ms_bt (f_X10_needLine σ l0 l2) ((f_X6_lineAt σ (ms_rf l0 1) l1).bind fun v3 => (f_X6_lineAt σ (ms_rf l0 1) l2).bind fun v4 => if 60 < ((ms_i σ v3 1) + (ms_i σ v4 1)) then some (.inl (-2), σ) else (f_X2_record σ (ms_rf l0 4) (ms_rf l0 1)).bind fun s5 => (f_X5_addAll s5 v3 v4).bind fun s6 => some (.inl (ms_i s6 v3 1), s6)) (fun e2 => some (.inr e2, σ))) (fun e1 => some (.inr e1, σ)))
  refine tr_aload_n (i := 0) dX10_join_0 rfl ?_
  refine tr_iload_n (i := 1) dX10_join_1 rfl ?_
  refine tr_d_tv (ms_cV (rest := []) (al := [.int l1]) 10 (sp_X10_needLine G hG (d - 1) (by omega) σ l0 l1 h0) h0 (by decide +kernel) kl_X10_202 fv_X10_needLine dX10_join_2 (show _ = some 1 by decide +kernel) (by omega) (Nat.le_of_ble_eq_true rfl) (by decide) (by decide)) rfl (by decide) (by decide) ?_ (fun e0 r h => by cases h; rfl)
  refine tr_aload_n (i := 0) dX10_join_5 rfl ?_
  refine tr_iload_n (i := 2) dX10_join_6 rfl ?_
  refine tr_d_tv (ms_cV (rest := []) (al := [.int l2]) 10 (sp_X10_needLine G hG (d - 1) (by omega) σ l0 l2 h0) h0 (by decide +kernel) kl_X10_202 fv_X10_needLine dX10_join_7 (show _ = some 1 by decide +kernel) (by omega) (Nat.le_of_ble_eq_true rfl) (by decide) (by decide)) rfl (by decide) (by decide) ?_ (fun e0 r h => by cases h; rfl)
  refine tr_aload_n (i := 0) dX10_join_10 rfl ?_
  refine tr_getR 10 h0 fl_X10_19 (by decide +kernel) dX10_join_11 ?_
  refine tr_iload_n (i := 1) dX10_join_14 rfl ?_
  refine tr_c_a (ms_cV (rest := []) (al := [.int l1]) 6 (sp_X6_lineAt G hG (d - 1) (by omega) σ (ms_rf l0 1) l1 (rk_10_1 h0)) (rk_10_1 h0) (by decide +kernel) kl_X10_205 fv_X6_lineAt dX10_join_15 (show _ = some 1 by decide +kernel) (by omega) (Nat.le_of_ble_eq_true rfl) (by decide) (by decide)) (fun v3 e_v3 => ?_)
  refine tr_astore_n (lv' := [(0, .ref l0), (2, .int l2), (3, .ref v3)]) [1, 3, 0] dX10_join_18 (by decide) rfl ?_
  refine tr_aload_n (i := 0) dX10_join_19 rfl ?_
  refine tr_getR 10 h0 fl_X10_19 (by decide +kernel) dX10_join_20 ?_
  refine tr_iload_n (i := 1) dX10_join_23 rfl ?_
  refine tr_c_a (ms_cV (rest := []) (al := [.int l2]) 6 (sp_X6_lineAt G hG (d - 1) (by omega) σ (ms_rf l0 1) l2 (rk_10_1 h0)) (rk_10_1 h0) (by decide +kernel) kl_X10_205 fv_X6_lineAt dX10_join_24 (show _ = some 1 by decide +kernel) (by omega) (Nat.le_of_ble_eq_true rfl) (by decide) (by decide)) (fun v4 e_v4 => ?_)
  refine tr_astore (lv' := [(0, .ref l0), (3, .ref v3), (4, .ref v4)]) [1, 3, 0] dX10_join_27 (by decide) rfl ?_
  refine tr_aload_n (i := 1) dX10_join_29 rfl ?_
  refine tr_getI 5 (ra_X6_lineAt (rk_10_1 h0) e_v3) fl_X10_209 (by decide +kernel) dX10_join_30 ?_
  refine tr_aload (i := 2) dX10_join_33 rfl ?_
  refine tr_getI 5 (ra_X6_lineAt (rk_10_1 h0) e_v4) fl_X10_209 (by decide +kernel) dX10_join_35 ?_
  refine tr_iadd dX10_join_38 ?_
  refine tr_bipush (v := 60) dX10_join_39 (by decide +kernel) ?_
  refine tr_icle (o := none) (tgt := 47) dX10_join_41 (by decide) ?_ ?_
  · refine tr_aload_n (i := 0) dX10_join_47 rfl ?_
    refine tr_getR 10 h0 fl_X10_44 (by decide +kernel) dX10_join_48 ?_
    refine tr_aload_n (i := 0) dX10_join_51 rfl ?_
    refine tr_getR 10 h0 fl_X10_19 (by decide +kernel) dX10_join_52 ?_
    refine tr_c_wv (ms_cV (rest := []) (al := [.ref (ms_rf l0 1)]) 2 (sp_X2_record G hG (d - 1) (by omega) σ (ms_rf l0 4) (ms_rf l0 1) (rk_10_4 h0) (rk_10_1 h0)) (rk_10_4 h0) (by decide +kernel) kl_X10_313 fv_X2_record dX10_join_55 (show _ = some 1 by decide +kernel) (by omega) (Nat.le_of_ble_eq_true rfl) (by decide) (by decide)) (fun s5 => ?_)
    refine tr_aload_n (i := 1) dX10_join_58 rfl ?_
    refine tr_aload (i := 2) dX10_join_59 rfl ?_
    refine tr_c_wv (ms_cV (rest := []) (al := [.ref v4]) 5 (sp_X5_addAll G hG (d - 1) (by omega) s5 v3 v4 (ra_X6_lineAt (rk_10_1 h0) e_v3) (ra_X6_lineAt (rk_10_1 h0) e_v4)) (ra_X6_lineAt (rk_10_1 h0) e_v3) (by decide +kernel) kl_X10_347 fv_X5_addAll dX10_join_61 (show _ = some 1 by decide +kernel) (by omega) (Nat.le_of_ble_eq_true rfl) (by decide) (by decide)) (fun s6 => ?_)
    refine tr_aload_n (i := 1) dX10_join_64 rfl ?_
    refine tr_getI 5 (ra_X6_lineAt (rk_10_1 h0) e_v3) fl_X10_209 (by decide +kernel) dX10_join_65 ?_
    exact tr_iret rfl rfl (by decide) (by decide) dX10_join_68
  · refine tr_bipush (v := (-2)) dX10_join_44 (by decide +kernel) ?_
    exact tr_iret rfl rfl (by decide) (by decide) dX10_join_46
theorem dX10_setClass_0 : decode cX10_setClass 0 = .ok (.aload_n 0, 1) := by decide +kernel
theorem dX10_setClass_1 : decode cX10_setClass 1 = .ok (.iload_n 1, 1) := by decide +kernel
theorem dX10_setClass_2 : decode cX10_setClass 2 = .ok (.invokevirtual 145, 3) := by decide +kernel
theorem dX10_setClass_5 : decode cX10_setClass 5 = .ok (.aload_n 0, 1) := by decide +kernel
theorem dX10_setClass_6 : decode cX10_setClass 6 = .ok (.getfield 19, 3) := by decide +kernel
theorem dX10_setClass_9 : decode cX10_setClass 9 = .ok (.iload_n 1, 1) := by decide +kernel
theorem dX10_setClass_10 : decode cX10_setClass 10 = .ok (.invokevirtual 306, 3) := by decide +kernel
theorem dX10_setClass_13 : decode cX10_setClass 13 = .ok (.iconst 1, 1) := by decide +kernel
theorem dX10_setClass_14 : decode cX10_setClass 14 = .ok (.iconst 1, 1) := by decide +kernel
theorem dX10_setClass_15 : decode cX10_setClass 15 = .ok (.invokestatic 316, 3) := by decide +kernel
theorem dX10_setClass_18 : decode cX10_setClass 18 = .ok (.iload_n 2, 1) := by decide +kernel
theorem dX10_setClass_19 : decode cX10_setClass 19 = .ok (.iconst 1, 1) := by decide +kernel
theorem dX10_setClass_20 : decode cX10_setClass 20 = .ok (.bipush 60, 2) := by decide +kernel
theorem dX10_setClass_22 : decode cX10_setClass 22 = .ok (.invokestatic 316, 3) := by decide +kernel
theorem dX10_setClass_25 : decode cX10_setClass 25 = .ok (.aload_n 0, 1) := by decide +kernel
theorem dX10_setClass_26 : decode cX10_setClass 26 = .ok (.getfield 19, 3) := by decide +kernel
theorem dX10_setClass_29 : decode cX10_setClass 29 = .ok (.iload_n 1, 1) := by decide +kernel
theorem dX10_setClass_30 : decode cX10_setClass 30 = .ok (.iload_n 2, 1) := by decide +kernel
theorem dX10_setClass_31 : decode cX10_setClass 31 = .ok (.invokevirtual 309, 3) := by decide +kernel
theorem dX10_setClass_34 : decode cX10_setClass 34 = .ok (.ifCond .ne 6, 3) := by decide +kernel
theorem dX10_setClass_37 : decode cX10_setClass 37 = .ok (.bipush (-2), 2) := by decide +kernel
theorem dX10_setClass_39 : decode cX10_setClass 39 = .ok (.ireturn, 1) := by decide +kernel
theorem dX10_setClass_40 : decode cX10_setClass 40 = .ok (.aload_n 0, 1) := by decide +kernel
theorem dX10_setClass_41 : decode cX10_setClass 41 = .ok (.getfield 44, 3) := by decide +kernel
theorem dX10_setClass_44 : decode cX10_setClass 44 = .ok (.aload_n 0, 1) := by decide +kernel
theorem dX10_setClass_45 : decode cX10_setClass 45 = .ok (.getfield 19, 3) := by decide +kernel
theorem dX10_setClass_48 : decode cX10_setClass 48 = .ok (.invokevirtual 313, 3) := by decide +kernel
theorem dX10_setClass_51 : decode cX10_setClass 51 = .ok (.aload_n 0, 1) := by decide +kernel
theorem dX10_setClass_52 : decode cX10_setClass 52 = .ok (.getfield 19, 3) := by decide +kernel
theorem dX10_setClass_55 : decode cX10_setClass 55 = .ok (.iload_n 1, 1) := by decide +kernel
theorem dX10_setClass_56 : decode cX10_setClass 56 = .ok (.invokevirtual 148, 3) := by decide +kernel
theorem dX10_setClass_59 : decode cX10_setClass 59 = .ok (.astore_n 3, 1) := by decide +kernel
theorem dX10_setClass_60 : decode cX10_setClass 60 = .ok (.aload_n 3, 1) := by decide +kernel
theorem dX10_setClass_61 : decode cX10_setClass 61 = .ok (.getfield 350, 3) := by decide +kernel
theorem dX10_setClass_64 : decode cX10_setClass 64 = .ok (.istore 4, 2) := by decide +kernel
theorem dX10_setClass_66 : decode cX10_setClass 66 = .ok (.aload_n 3, 1) := by decide +kernel
theorem dX10_setClass_67 : decode cX10_setClass 67 = .ok (.iload_n 2, 1) := by decide +kernel
theorem dX10_setClass_68 : decode cX10_setClass 68 = .ok (.putfield 350, 3) := by decide +kernel
theorem dX10_setClass_71 : decode cX10_setClass 71 = .ok (.iload 4, 2) := by decide +kernel
theorem dX10_setClass_73 : decode cX10_setClass 73 = .ok (.ireturn, 1) := by decide +kernel
set_option maxRecDepth 100000 in
theorem sp_X10_setClass (G : MG) (hG : (g_l G).stackTraces = false) (d : Nat) (hd : 8 ≤ d)   (σ : MsSt) (l0 : Nat) (l1 : Int32) (l2 : Int32) (h0 : ms_kd l0 = 11) : MsSpec G mX10_setClass d 3 18 [.ref l0, .int l1, .int l2] σ ms_ui (f_X10_setClass σ l0 l1 l2) := by
  refine ms_start (by decide +kernel) rfl rfl (Nat.le_of_ble_eq_true rfl) ?_
  show TrO G mX10_setClass d 3 18 0 0 ms_ui 0 [(0, .ref l0), (1, .int l1), (2, .int l2)] [] σ (ms_bt (f_X10_needSign σ l0 l1) ((f_X6_kindOf σ (ms_rf l0 1) l1).bind fun v2 => ms_bt (f_X10_allowIn σ v2 1 1) (ms_bt (f_X10_allowIn σ l2 1 60) ((f_X6_mayHaveClass σ (ms_rf l0 1) l1 l2).bind fun v5 => if v5 = 0 then some (.inl (-2), σ) else (f_X2_record σ (ms_rf l0 4) (ms_rf l0 1)).bind fun s6 => (f_X6_told s6 (ms_rf l0 1) l1).bind fun v7 => ms_nm (ms_si s6 v7 4 l2) fun s8 => some (.inl (ms_i s6 v7 4), s8)) (fun e4 => some (.inr e4, σ))) (fun e3 => some (.inr e3, σ))) (fun e1 => some (.inr e1, σ)))
  refine tr_aload_n (i := 0) dX10_setClass_0 rfl ?_
  refine tr_iload_n (i := 1) dX10_setClass_1 rfl ?_
  refine tr_d_tv (ms_cV (rest := []) (al := [.int l1]) 10 (sp_X10_needSign G hG (d - 1) (by omega) σ l0 l1 h0) h0 (by decide +kernel) kl_X10_145 fv_X10_needSign dX10_setClass_2 (show _ = some 1 by decide +kernel) (by omega) (Nat.le_of_ble_eq_true rfl) (by decide) (by decide)) rfl (by decide) (by decide) ?_ (fun e0 r h => by cases h; rfl)
  refine tr_aload_n (i := 0) dX10_setClass_5 rfl ?_
  refine tr_getR 10 h0 fl_X10_19 (by decide +kernel) dX10_setClass_6 ?_
  refine tr_iload_n (i := 1) dX10_setClass_9 rfl ?_
  refine tr_c_i (ms_cV (rest := []) (al := [.int l1]) 6 (sp_X6_kindOf G hG (d - 1) (by omega) σ (ms_rf l0 1) l1 (rk_10_1 h0)) (rk_10_1 h0) (by decide +kernel) kl_X10_306 fv_X6_kindOf dX10_setClass_10 (show _ = some 1 by decide +kernel) (by omega) (Nat.le_of_ble_eq_true rfl) (by decide) (by decide)) (fun v2 => ?_)
  refine tr_iconst (v := 1) dX10_setClass_13 (by decide +kernel) ?_
  refine tr_iconst (v := 1) dX10_setClass_14 (by decide +kernel) ?_
  refine tr_d_tv (ms_cS (rest := []) (al := [.int v2, .int 1, .int 1]) (sp_X10_allowIn G hG (d - 1) (by omega) σ v2 1 1) kl_X10_316 fs_X10_allowIn dX10_setClass_15 (show _ = some 3 by decide +kernel) (by omega) (Nat.le_of_ble_eq_true rfl) (by decide) (by decide)) rfl (by decide) (by decide) ?_ (fun e0 r h => by cases h; rfl)
  refine tr_iload_n (i := 2) dX10_setClass_18 rfl ?_
  refine tr_iconst (v := 1) dX10_setClass_19 (by decide +kernel) ?_
  refine tr_bipush (v := 60) dX10_setClass_20 (by decide +kernel) ?_
  refine tr_d_tv (ms_cS (rest := []) (al := [.int l2, .int 1, .int 60]) (sp_X10_allowIn G hG (d - 1) (by omega) σ l2 1 60) kl_X10_316 fs_X10_allowIn dX10_setClass_22 (show _ = some 3 by decide +kernel) (by omega) (Nat.le_of_ble_eq_true rfl) (by decide) (by decide)) rfl (by decide) (by decide) ?_ (fun e0 r h => by cases h; rfl)
  refine tr_aload_n (i := 0) dX10_setClass_25 rfl ?_
  refine tr_getR 10 h0 fl_X10_19 (by decide +kernel) dX10_setClass_26 ?_
  refine tr_iload_n (i := 1) dX10_setClass_29 rfl ?_
  refine tr_iload_n (i := 2) dX10_setClass_30 rfl ?_
  refine tr_c_i (ms_cV (rest := []) (al := [.int l1, .int l2]) 6 (sp_X6_mayHaveClass G hG (d - 1) (by omega) σ (ms_rf l0 1) l1 l2 (rk_10_1 h0)) (rk_10_1 h0) (by decide +kernel) kl_X10_309 fv_X6_mayHaveClass dX10_setClass_31 (show _ = some 2 by decide +kernel) (by omega) (Nat.le_of_ble_eq_true rfl) (by decide) (by decide)) (fun v5 => ?_)
  refine tr_ifne (o := none) (tgt := 40) dX10_setClass_34 (by decide) ?_ ?_
  · refine tr_aload_n (i := 0) dX10_setClass_40 rfl ?_
    refine tr_getR 10 h0 fl_X10_44 (by decide +kernel) dX10_setClass_41 ?_
    refine tr_aload_n (i := 0) dX10_setClass_44 rfl ?_
    refine tr_getR 10 h0 fl_X10_19 (by decide +kernel) dX10_setClass_45 ?_
    refine tr_c_wv (ms_cV (rest := []) (al := [.ref (ms_rf l0 1)]) 2 (sp_X2_record G hG (d - 1) (by omega) σ (ms_rf l0 4) (ms_rf l0 1) (rk_10_4 h0) (rk_10_1 h0)) (rk_10_4 h0) (by decide +kernel) kl_X10_313 fv_X2_record dX10_setClass_48 (show _ = some 1 by decide +kernel) (by omega) (Nat.le_of_ble_eq_true rfl) (by decide) (by decide)) (fun s6 => ?_)
    refine tr_aload_n (i := 0) dX10_setClass_51 rfl ?_
    refine tr_getR 10 h0 fl_X10_19 (by decide +kernel) dX10_setClass_52 ?_
    refine tr_iload_n (i := 1) dX10_setClass_55 rfl ?_
    refine tr_c_a (ms_cV (rest := []) (al := [.int l1]) 6 (sp_X6_told G hG (d - 1) (by omega) s6 (ms_rf l0 1) l1 (rk_10_1 h0)) (rk_10_1 h0) (by decide +kernel) kl_X10_148 fv_X6_told dX10_setClass_56 (show _ = some 1 by decide +kernel) (by omega) (Nat.le_of_ble_eq_true rfl) (by decide) (by decide)) (fun v7 e_v7 => ?_)
    refine tr_astore_n (lv' := [(2, .int l2), (3, .ref v7)]) [3, 0] dX10_setClass_59 (by decide) rfl ?_
    refine tr_aload_n (i := 1) dX10_setClass_60 rfl ?_
    refine tr_getI 7 (ra_X6_told (rk_10_1 h0) e_v7) fl_X10_350 (by decide +kernel) dX10_setClass_61 ?_
    refine tr_istore (lv' := [(2, .int l2), (3, .ref v7), (4, .int (ms_i s6 v7 4))]) [1, 2, 0] dX10_setClass_64 (by decide) rfl ?_
    refine tr_aload_n (i := 1) dX10_setClass_66 rfl ?_
    refine tr_iload_n (i := 0) dX10_setClass_67 rfl ?_
    refine tr_putI 7 (ra_X6_told (rk_10_1 h0) e_v7) fl_X10_350 (by decide +kernel) dX10_setClass_68 ?_
    refine ms_ltS (fun s8 => ?_)
    refine tr_iload (i := 2) dX10_setClass_71 rfl ?_
    exact tr_iret rfl rfl (by decide) (by decide) dX10_setClass_73
  · refine tr_bipush (v := (-2)) dX10_setClass_37 (by decide +kernel) ?_
    exact tr_iret rfl rfl (by decide) (by decide) dX10_setClass_39
