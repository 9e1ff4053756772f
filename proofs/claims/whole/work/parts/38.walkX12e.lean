/-! X12: the bytecode does what the functions say (by program: wip/whole/gen) -/
theorem dX12_type_0 : decode cX12_type 0 = .ok (.aload_n 0, 1) := by decide +kernel
theorem dX12_type_1 : decode cX12_type 1 = .ok (.aload_n 0, 1) := by decide +kernel
theorem dX12_type_2 : decode cX12_type 2 = .ok (.iload_n 1, 1) := by decide +kernel
theorem dX12_type_3 : decode cX12_type 3 = .ok (.invokevirtual 118, 3) := by decide +kernel
theorem dX12_type_6 : decode cX12_type 6 = .ok (.ifCond .eq 11, 3) := by decide +kernel
theorem dX12_type_9 : decode cX12_type 9 = .ok (.aload_n 0, 1) := by decide +kernel
theorem dX12_type_10 : decode cX12_type 10 = .ok (.iload_n 3, 1) := by decide +kernel
theorem dX12_type_11 : decode cX12_type 11 = .ok (.invokevirtual 122, 3) := by decide +kernel
theorem dX12_type_14 : decode cX12_type 14 = .ok (.ifCond .ne 7, 3) := by decide +kernel
theorem dX12_type_17 : decode cX12_type 17 = .ok (.iconst 1, 1) := by decide +kernel
theorem dX12_type_18 : decode cX12_type 18 = .ok (.goto 26, 3) := by decide +kernel
theorem dX12_type_21 : decode cX12_type 21 = .ok (.iload_n 2, 1) := by decide +kernel
theorem dX12_type_22 : decode cX12_type 22 = .ok (.i2l, 1) := by decide +kernel
theorem dX12_type_23 : decode cX12_type 23 = .ok (.lconst 0, 1) := by decide +kernel
theorem dX12_type_24 : decode cX12_type 24 = .ok (.aload_n 0, 1) := by decide +kernel
theorem dX12_type_25 : decode cX12_type 25 = .ok (.getfield 9, 3) := by decide +kernel
theorem dX12_type_28 : decode cX12_type 28 = .ok (.iconst 3, 1) := by decide +kernel
theorem dX12_type_29 : decode cX12_type 29 = .ok (.iload_n 1, 1) := by decide +kernel
theorem dX12_type_30 : decode cX12_type 30 = .ok (.iadd, 1) := by decide +kernel
theorem dX12_type_31 : decode cX12_type 31 = .ok (.iaload, 1) := by decide +kernel
theorem dX12_type_32 : decode cX12_type 32 = .ok (.i2l, 1) := by decide +kernel
theorem dX12_type_33 : decode cX12_type 33 = .ok (.invokestatic 110, 3) := by decide +kernel
theorem dX12_type_36 : decode cX12_type 36 = .ok (.ifCond .eq 7, 3) := by decide +kernel
theorem dX12_type_39 : decode cX12_type 39 = .ok (.iconst 0, 1) := by decide +kernel
theorem dX12_type_40 : decode cX12_type 40 = .ok (.goto 4, 3) := by decide +kernel
theorem dX12_type_43 : decode cX12_type 43 = .ok (.iconst 2, 1) := by decide +kernel
theorem dX12_type_44 : decode cX12_type 44 = .ok (.putfield 107, 3) := by decide +kernel
theorem dX12_type_47 : decode cX12_type 47 = .ok (.aload_n 0, 1) := by decide +kernel
theorem dX12_type_48 : decode cX12_type 48 = .ok (.getfield 107, 3) := by decide +kernel
theorem dX12_type_51 : decode cX12_type 51 = .ok (.ifCond .eq 5, 3) := by decide +kernel
theorem dX12_type_54 : decode cX12_type 54 = .ok (.iconst 0, 1) := by decide +kernel
theorem dX12_type_55 : decode cX12_type 55 = .ok (.ireturn, 1) := by decide +kernel
theorem dX12_type_56 : decode cX12_type 56 = .ok (.aload_n 0, 1) := by decide +kernel
theorem dX12_type_57 : decode cX12_type 57 = .ok (.getfield 9, 3) := by decide +kernel
theorem dX12_type_60 : decode cX12_type 60 = .ok (.iconst 3, 1) := by decide +kernel
theorem dX12_type_61 : decode cX12_type 61 = .ok (.iload_n 1, 1) := by decide +kernel
theorem dX12_type_62 : decode cX12_type 62 = .ok (.iadd, 1) := by decide +kernel
theorem dX12_type_63 : decode cX12_type 63 = .ok (.iaload, 1) := by decide +kernel
theorem dX12_type_64 : decode cX12_type 64 = .ok (.bipush 60, 2) := by decide +kernel
theorem dX12_type_66 : decode cX12_type 66 = .ok (.if_icmp .ne 6, 3) := by decide +kernel
theorem dX12_type_69 : decode cX12_type 69 = .ok (.bipush (-2), 2) := by decide +kernel
theorem dX12_type_71 : decode cX12_type 71 = .ok (.ireturn, 1) := by decide +kernel
theorem dX12_type_72 : decode cX12_type 72 = .ok (.aload_n 0, 1) := by decide +kernel
theorem dX12_type_73 : decode cX12_type 73 = .ok (.invokevirtual 319, 3) := by decide +kernel
theorem dX12_type_76 : decode cX12_type 76 = .ok (.aload_n 0, 1) := by decide +kernel
theorem dX12_type_77 : decode cX12_type 77 = .ok (.getfield 9, 3) := by decide +kernel
theorem dX12_type_80 : decode cX12_type 80 = .ok (.iconst 3, 1) := by decide +kernel
theorem dX12_type_81 : decode cX12_type 81 = .ok (.iload_n 1, 1) := by decide +kernel
theorem dX12_type_82 : decode cX12_type 82 = .ok (.iadd, 1) := by decide +kernel
theorem dX12_type_83 : decode cX12_type 83 = .ok (.iaload, 1) := by decide +kernel
theorem dX12_type_84 : decode cX12_type 84 = .ok (.istore 4, 2) := by decide +kernel
theorem dX12_type_86 : decode cX12_type 86 = .ok (.iload 4, 2) := by decide +kernel
theorem dX12_type_88 : decode cX12_type 88 = .ok (.iload_n 2, 1) := by decide +kernel
theorem dX12_type_89 : decode cX12_type 89 = .ok (.if_icmp .le 33, 3) := by decide +kernel
theorem dX12_type_92 : decode cX12_type 92 = .ok (.aload_n 0, 1) := by decide +kernel
theorem dX12_type_93 : decode cX12_type 93 = .ok (.getfield 9, 3) := by decide +kernel
theorem dX12_type_96 : decode cX12_type 96 = .ok (.iload_n 1, 1) := by decide +kernel
theorem dX12_type_97 : decode cX12_type 97 = .ok (.iload 4, 2) := by decide +kernel
theorem dX12_type_99 : decode cX12_type 99 = .ok (.invokestatic 149, 3) := by decide +kernel
theorem dX12_type_102 : decode cX12_type 102 = .ok (.aload_n 0, 1) := by decide +kernel
theorem dX12_type_103 : decode cX12_type 103 = .ok (.getfield 9, 3) := by decide +kernel
theorem dX12_type_106 : decode cX12_type 106 = .ok (.iload_n 1, 1) := by decide +kernel
theorem dX12_type_107 : decode cX12_type 107 = .ok (.iload 4, 2) := by decide +kernel
theorem dX12_type_109 : decode cX12_type 109 = .ok (.iconst 1, 1) := by decide +kernel
theorem dX12_type_110 : decode cX12_type 110 = .ok (.isub, 1) := by decide +kernel
theorem dX12_type_111 : decode cX12_type 111 = .ok (.invokestatic 149, 3) := by decide +kernel
theorem dX12_type_114 : decode cX12_type 114 = .ok (.iaload, 1) := by decide +kernel
theorem dX12_type_115 : decode cX12_type 115 = .ok (.iastore, 1) := by decide +kernel
theorem dX12_type_116 : decode cX12_type 116 = .ok (.iinc 4 (-1), 3) := by decide +kernel
theorem dX12_type_119 : decode cX12_type 119 = .ok (.goto (-33), 3) := by decide +kernel
theorem dX12_type_122 : decode cX12_type 122 = .ok (.aload_n 0, 1) := by decide +kernel
theorem dX12_type_123 : decode cX12_type 123 = .ok (.getfield 9, 3) := by decide +kernel
theorem dX12_type_126 : decode cX12_type 126 = .ok (.iload_n 1, 1) := by decide +kernel
theorem dX12_type_127 : decode cX12_type 127 = .ok (.iload_n 2, 1) := by decide +kernel
theorem dX12_type_128 : decode cX12_type 128 = .ok (.invokestatic 149, 3) := by decide +kernel
theorem dX12_type_131 : decode cX12_type 131 = .ok (.iload_n 3, 1) := by decide +kernel
theorem dX12_type_132 : decode cX12_type 132 = .ok (.iastore, 1) := by decide +kernel
theorem dX12_type_133 : decode cX12_type 133 = .ok (.aload_n 0, 1) := by decide +kernel
theorem dX12_type_134 : decode cX12_type 134 = .ok (.getfield 9, 3) := by decide +kernel
theorem dX12_type_137 : decode cX12_type 137 = .ok (.iconst 3, 1) := by decide +kernel
theorem dX12_type_138 : decode cX12_type 138 = .ok (.iload_n 1, 1) := by decide +kernel
theorem dX12_type_139 : decode cX12_type 139 = .ok (.iadd, 1) := by decide +kernel
theorem dX12_type_140 : decode cX12_type 140 = .ok (.dup2, 1) := by decide +kernel
theorem dX12_type_141 : decode cX12_type 141 = .ok (.iaload, 1) := by decide +kernel
theorem dX12_type_142 : decode cX12_type 142 = .ok (.iconst 1, 1) := by decide +kernel
theorem dX12_type_143 : decode cX12_type 143 = .ok (.iadd, 1) := by decide +kernel
theorem dX12_type_144 : decode cX12_type 144 = .ok (.iastore, 1) := by decide +kernel
theorem dX12_type_145 : decode cX12_type 145 = .ok (.aload_n 0, 1) := by decide +kernel
theorem dX12_type_146 : decode cX12_type 146 = .ok (.iload_n 1, 1) := by decide +kernel
theorem dX12_type_147 : decode cX12_type 147 = .ok (.invokevirtual 162, 3) := by decide +kernel
theorem dX12_type_150 : decode cX12_type 150 = .ok (.aload_n 0, 1) := by decide +kernel
theorem dX12_type_151 : decode cX12_type 151 = .ok (.getfield 132, 3) := by decide +kernel
theorem dX12_type_154 : decode cX12_type 154 = .ok (.ireturn, 1) := by decide +kernel
set_option maxRecDepth 100000 in
theorem t_X12_type_86 (G : MG) (hG : (g_l G).stackTraces = false) (d : Nat) (hd : 6 ≤ d)    : ∀ (n : Nat) (σ : MsSt) (l0 : Nat) (l1 : Int32) (l2 : Int32) (l3 : Int32) (l4 : Int32) (h0 : ms_kd l0 = 13), TrO G mX12_type d 0 0 0 0 ms_wi 86 [(0, .ref l0), (1, .int l1), (2, .int l2), (3, .int l3), (4, .int l4)] [] σ (f_X12_type_86 n σ l0 l1 l2 l3 l4) := by
  intro n
  induction n with
  | zero => exact fun _ _ _ _ _ _ _ => tr_none
  | succ n ih =>
    intro σ l0 l1 l2 l3 l4 h0
    show TrO G mX12_type d 0 0 0 0 ms_wi 86 [(0, .ref l0), (1, .int l1), (2, .int l2), (3, .int l3), (4, .int l4)] [] σ (if l2 < l4 then (f_X12_spot σ l1 l4).bind fun v11 => (f_X12_spot σ l1 (l4 - 1)).bind fun v12 => (ms_ald σ (ms_rf l0 0) v12).bind fun v13 => (ms_ast σ (ms_rf l0 0) v11 v13).bind fun s14 => (f_X12_type_86 n) s14 l0 l1 l2 l3 (l4 + (-1)) else (f_X12_spot σ l1 l2).bind fun v6 => (ms_ast σ (ms_rf l0 0) v6 l3).bind fun s7 => (ms_ald s7 (ms_rf l0 0) (3 + l1)).bind fun v8 => (ms_ast s7 (ms_rf l0 0) (3 + l1) (v8 + 1)).bind fun s9 => (f_X12_layDecomposed s9 l0 l1).bind fun s10 => some ((ms_i s10 l0 11), s10))
    refine tr_iload (i := 4) dX12_type_86 rfl ?_
    refine tr_iload_n (i := 2) dX12_type_88 rfl ?_
    refine tr_icle (o := none) (tgt := 122) dX12_type_89 (by decide) ?_ ?_
    · refine tr_aload_n (i := 0) dX12_type_122 rfl ?_
      refine tr_getR 12 h0 fl_X12_9 (by decide +kernel) dX12_type_123 ?_
      refine tr_iload_n (i := 1) dX12_type_126 rfl ?_
      refine tr_iload_n (i := 2) dX12_type_127 rfl ?_
      refine tr_c_i (ms_cS (rest := [.ref (ms_rf l0 0)]) (al := [.int l1, .int l2]) (sp_X12_spot G hG (d - 1) (by omega) σ l1 l2) kl_X12_149 fs_X12_spot dX12_type_128 (show _ = some 2 by decide +kernel) (by omega) (Nat.le_of_ble_eq_true rfl) (by decide) (by decide)) (fun v6 => ?_)
      refine tr_iload_n (i := 3) dX12_type_131 rfl ?_
      refine tr_ast (rk_12_0 h0) dX12_type_132 (fun s7 => ?_)
      refine tr_aload_n (i := 0) dX12_type_133 rfl ?_
      refine tr_getR 12 h0 fl_X12_9 (by decide +kernel) dX12_type_134 ?_
      refine tr_iconst (v := 3) dX12_type_137 (by decide +kernel) ?_
      refine tr_iload_n (i := 1) dX12_type_138 rfl ?_
      refine tr_iadd dX12_type_139 ?_
      refine tr_dup2 dX12_type_140 rfl rfl ?_
      refine tr_ald (rk_12_0 h0) dX12_type_141 (fun v8 => ?_)
      refine tr_iconst (v := 1) dX12_type_142 (by decide +kernel) ?_
      refine tr_iadd dX12_type_143 ?_
      refine tr_ast (rk_12_0 h0) dX12_type_144 (fun s9 => ?_)
      refine tr_aload_n (i := 0) dX12_type_145 rfl ?_
      refine tr_iload_n (i := 1) dX12_type_146 rfl ?_
      refine tr_c_wv (ms_cV (rest := []) (al := [.int l1]) 12 (sp_X12_layDecomposed G hG (d - 1) (by omega) s9 l0 l1 h0) h0 (by decide +kernel) kl_X12_162 fv_X12_layDecomposed dX12_type_147 (show _ = some 1 by decide +kernel) (by omega) (Nat.le_of_ble_eq_true rfl) (by decide) (by decide)) (fun s10 => ?_)
      refine tr_aload_n (i := 0) dX12_type_150 rfl ?_
      refine tr_getI 12 h0 fl_X12_132 (by decide +kernel) dX12_type_151 ?_
      exact tr_iret rfl rfl (by decide) (by decide) dX12_type_154
    · refine tr_aload_n (i := 0) dX12_type_92 rfl ?_
      refine tr_getR 12 h0 fl_X12_9 (by decide +kernel) dX12_type_93 ?_
      refine tr_iload_n (i := 1) dX12_type_96 rfl ?_
      refine tr_iload (i := 4) dX12_type_97 rfl ?_
      refine tr_c_i (ms_cS (rest := [.ref (ms_rf l0 0)]) (al := [.int l1, .int l4]) (sp_X12_spot G hG (d - 1) (by omega) σ l1 l4) kl_X12_149 fs_X12_spot dX12_type_99 (show _ = some 2 by decide +kernel) (by omega) (Nat.le_of_ble_eq_true rfl) (by decide) (by decide)) (fun v11 => ?_)
      refine tr_aload_n (i := 0) dX12_type_102 rfl ?_
      refine tr_getR 12 h0 fl_X12_9 (by decide +kernel) dX12_type_103 ?_
      refine tr_iload_n (i := 1) dX12_type_106 rfl ?_
      refine tr_iload (i := 4) dX12_type_107 rfl ?_
      refine tr_iconst (v := 1) dX12_type_109 (by decide +kernel) ?_
      refine tr_isub dX12_type_110 ?_
      refine tr_c_i (ms_cS (rest := [.ref (ms_rf l0 0), .int v11, .ref (ms_rf l0 0)]) (al := [.int l1, .int (l4 - 1)]) (sp_X12_spot G hG (d - 1) (by omega) σ l1 (l4 - 1)) kl_X12_149 fs_X12_spot dX12_type_111 (show _ = some 2 by decide +kernel) (by omega) (Nat.le_of_ble_eq_true rfl) (by decide) (by decide)) (fun v12 => ?_)
      refine tr_ald (rk_12_0 h0) dX12_type_114 (fun v13 => ?_)
      refine tr_ast (rk_12_0 h0) dX12_type_115 (fun s14 => ?_)
      refine tr_iinc (k := 4) (v := (l4 + (-1))) (lv' := [(0, .ref l0), (1, .int l1), (2, .int l2), (3, .int l3), (4, .int (l4 + (-1)))]) [1, 2, 3, 4, 0] dX12_type_116 rfl rfl (by decide) rfl ?_
      refine tr_goto (tgt := 86) dX12_type_119 (by decide) ?_
      exact (fun s y0 y1 y2 y3 y4 g0 => ih s y0 y1 y2 y3 y4 g0) s14 l0 l1 l2 l3 (l4 + (-1)) h0
set_option maxRecDepth 100000 in
theorem t_X12_type_44 (G : MG) (hG : (g_l G).stackTraces = false) (d : Nat) (hd : 6 ≤ d)    (σ : MsSt) (l0 : Nat) (l1 : Int32) (l2 : Int32) (l3 : Int32) (t0 : Int32) (t1 : Nat) (h0 : ms_kd l0 = 13) (ht1 : ms_kd t1 = 13) : TrO G mX12_type d 0 0 0 0 ms_wi 44 [(0, .ref l0), (1, .int l1), (2, .int l2), (3, .int l3)] [.int t0, .ref t1] σ (f_X12_type_44 σ l0 l1 l2 l3 t0 t1) := by
  show TrO G mX12_type d 0 0 0 0 ms_wi 44 [(0, .ref l0), (1, .int l1), (2, .int l2), (3, .int l3)] [.int t0, .ref t1] σ (ms_nm (ms_si σ t1 7 t0) fun s2 => if (ms_i s2 l0 7) = 0 then (ms_ald s2 (ms_rf l0 0) (3 + l1)).bind fun v3 => if v3 = 60 then some ((-2), s2) else (f_X12_record s2 l0).bind fun s4 => (ms_ald s4 (ms_rf l0 0) (3 + l1)).bind fun v5 => f_X12_type_86 ms_fuel s4 l0 l1 l2 l3 v5 else some (0, s2))
  refine tr_putI 12 ht1 fl_X12_107 (by decide +kernel) dX12_type_44 ?_
  refine ms_ltS (fun s2 => ?_)
  refine tr_aload_n (i := 0) dX12_type_47 rfl ?_
  refine tr_getI 12 h0 fl_X12_107 (by decide +kernel) dX12_type_48 ?_
  refine tr_ifeq (o := none) (tgt := 56) dX12_type_51 (by decide) ?_ ?_
  · refine tr_aload_n (i := 0) dX12_type_56 rfl ?_
    refine tr_getR 12 h0 fl_X12_9 (by decide +kernel) dX12_type_57 ?_
    refine tr_iconst (v := 3) dX12_type_60 (by decide +kernel) ?_
    refine tr_iload_n (i := 1) dX12_type_61 rfl ?_
    refine tr_iadd dX12_type_62 ?_
    refine tr_ald (rk_12_0 h0) dX12_type_63 (fun v3 => ?_)
    refine tr_bipush (v := 60) dX12_type_64 (by decide +kernel) ?_
    refine tr_icne (o := none) (tgt := 72) dX12_type_66 (by decide) ?_ ?_
    · refine tr_aload_n (i := 0) dX12_type_72 rfl ?_
      refine tr_c_wv (ms_cV (rest := []) (al := []) 12 (sp_X12_record G hG (d - 1) (by omega) s2 l0 h0) h0 (by decide +kernel) kl_X12_319 fv_X12_record dX12_type_73 (show _ = some 0 by decide +kernel) (by omega) (Nat.le_of_ble_eq_true rfl) (by decide) (by decide)) (fun s4 => ?_)
      refine tr_aload_n (i := 0) dX12_type_76 rfl ?_
      refine tr_getR 12 h0 fl_X12_9 (by decide +kernel) dX12_type_77 ?_
      refine tr_iconst (v := 3) dX12_type_80 (by decide +kernel) ?_
      refine tr_iload_n (i := 1) dX12_type_81 rfl ?_
      refine tr_iadd dX12_type_82 ?_
      refine tr_ald (rk_12_0 h0) dX12_type_83 (fun v5 => ?_)
      refine tr_istore (lv' := [(0, .ref l0), (1, .int l1), (2, .int l2), (3, .int l3), (4, .int v5)]) [1, 2, 3, 4, 0] dX12_type_84 (by decide) rfl ?_
      exact t_X12_type_86 G hG d hd ms_fuel s4 l0 l1 l2 l3 v5 h0
    · refine tr_bipush (v := (-2)) dX12_type_69 (by decide +kernel) ?_
      exact tr_iret rfl rfl (by decide) (by decide) dX12_type_71
  · refine tr_iconst (v := 0) dX12_type_54 (by decide +kernel) ?_
    exact tr_iret rfl rfl (by decide) (by decide) dX12_type_55
set_option maxRecDepth 100000 in
theorem t_X12_type_17 (G : MG) (hG : (g_l G).stackTraces = false) (d : Nat) (hd : 6 ≤ d)    (σ : MsSt) (l0 : Nat) (l1 : Int32) (l2 : Int32) (l3 : Int32) (t0 : Nat) (h0 : ms_kd l0 = 13) (ht0 : ms_kd t0 = 13) : TrO G mX12_type d 0 0 0 0 ms_wi 17 [(0, .ref l0), (1, .int l1), (2, .int l2), (3, .int l3)] [.ref t0] σ (f_X12_type_17 σ l0 l1 l2 l3 t0) := by
  show TrO G mX12_type d 0 0 0 0 ms_wi 17 [(0, .ref l0), (1, .int l1), (2, .int l2), (3, .int l3)] [.ref t0] σ (f_X12_type_44 σ l0 l1 l2 l3 1 t0)
  refine tr_iconst (v := 1) dX12_type_17 (by decide +kernel) ?_
  refine tr_goto (tgt := 44) dX12_type_18 (by decide) ?_
  exact t_X12_type_44 G hG d hd σ l0 l1 l2 l3 1 t0 h0 ht0
set_option maxRecDepth 100000 in
theorem sp_X12_type (G : MG) (hG : (g_l G).stackTraces = false) (d : Nat) (hd : 6 ≤ d)   (σ : MsSt) (l0 : Nat) (l1 : Int32) (l2 : Int32) (l3 : Int32) (h0 : ms_kd l0 = 13) : MsSpec G mX12_type d 0 0 [.ref l0, .int l1, .int l2, .int l3] σ ms_wi (f_X12_type σ l0 l1 l2 l3) := by
  refine ms_start (by decide +kernel) rfl rfl (Nat.le_of_ble_eq_true rfl) ?_
  show TrO G mX12_type d 0 0 0 0 ms_wi 0 [(0, .ref l0), (1, .int l1), (2, .int l2), (3, .int l3)] [] σ ((f_X12_isLine σ l0 l1).bind fun v1 => if v1 = 0 then f_X12_type_17 σ l0 l1 l2 l3 l0 else (f_X12_isSign σ l0 l3).bind fun v15 => if v15 = 0 then f_X12_type_17 σ l0 l1 l2 l3 l0 else (ms_ald σ (ms_rf l0 0) (3 + l1)).bind fun v16 => (f_X12_inRange σ l2.toInt64 0 v16.toInt64).bind fun v17 => if v17 = 0 then f_X12_type_44 σ l0 l1 l2 l3 2 l0 else f_X12_type_44 σ l0 l1 l2 l3 0 l0)
  refine tr_aload_n (i := 0) dX12_type_0 rfl ?_
  refine tr_aload_n (i := 0) dX12_type_1 rfl ?_
  refine tr_iload_n (i := 1) dX12_type_2 rfl ?_
  refine tr_c_i (ms_cV (rest := [.ref l0]) (al := [.int l1]) 12 (sp_X12_isLine G hG (d - 1) (by omega) σ l0 l1 h0) h0 (by decide +kernel) kl_X12_118 fv_X12_isLine dX12_type_3 (show _ = some 1 by decide +kernel) (by omega) (Nat.le_of_ble_eq_true rfl) (by decide) (by decide)) (fun v1 => ?_)
  refine tr_ifeq (o := none) (tgt := 17) dX12_type_6 (by decide) ?_ ?_
  · exact t_X12_type_17 G hG d hd σ l0 l1 l2 l3 l0 h0 h0
  · refine tr_aload_n (i := 0) dX12_type_9 rfl ?_
    refine tr_iload_n (i := 3) dX12_type_10 rfl ?_
    refine tr_c_i (ms_cV (rest := [.ref l0]) (al := [.int l3]) 12 (sp_X12_isSign G hG (d - 1) (by omega) σ l0 l3 h0) h0 (by decide +kernel) kl_X12_122 fv_X12_isSign dX12_type_11 (show _ = some 1 by decide +kernel) (by omega) (Nat.le_of_ble_eq_true rfl) (by decide) (by decide)) (fun v15 => ?_)
    refine tr_ifne (o := none) (tgt := 21) dX12_type_14 (by decide) ?_ ?_
    · refine tr_iload_n (i := 2) dX12_type_21 rfl ?_
      refine tr_i2l dX12_type_22 ?_
      refine tr_lconst (v := 0) dX12_type_23 (by decide +kernel) ?_
      refine tr_aload_n (i := 0) dX12_type_24 rfl ?_
      refine tr_getR 12 h0 fl_X12_9 (by decide +kernel) dX12_type_25 ?_
      refine tr_iconst (v := 3) dX12_type_28 (by decide +kernel) ?_
      refine tr_iload_n (i := 1) dX12_type_29 rfl ?_
      refine tr_iadd dX12_type_30 ?_
      refine tr_ald (rk_12_0 h0) dX12_type_31 (fun v16 => ?_)
      refine tr_i2l dX12_type_32 ?_
      refine tr_c_i (ms_cS (rest := [.ref l0]) (al := [.long l2.toInt64, .long 0, .long v16.toInt64]) (sp_X12_inRange G hG (d - 1) (by omega) σ l2.toInt64 0 v16.toInt64) kl_X12_110 fs_X12_inRange dX12_type_33 (show _ = some 3 by decide +kernel) (by omega) (Nat.le_of_ble_eq_true rfl) (by decide) (by decide)) (fun v17 => ?_)
      refine tr_ifeq (o := none) (tgt := 43) dX12_type_36 (by decide) ?_ ?_
      · refine tr_iconst (v := 2) dX12_type_43 (by decide +kernel) ?_
        exact t_X12_type_44 G hG d hd σ l0 l1 l2 l3 2 l0 h0 h0
      · refine tr_iconst (v := 0) dX12_type_39 (by decide +kernel) ?_
        refine tr_goto (tgt := 44) dX12_type_40 (by decide) ?_
        exact t_X12_type_44 G hG d hd σ l0 l1 l2 l3 0 l0 h0 h0
    · exact t_X12_type_17 G hG d hd σ l0 l1 l2 l3 l0 h0 h0
theorem dX12_shorten_0 : decode cX12_shorten 0 = .ok (.iload_n 2, 1) := by decide +kernel
theorem dX12_shorten_1 : decode cX12_shorten 1 = .ok (.istore_n 3, 1) := by decide +kernel
theorem dX12_shorten_2 : decode cX12_shorten 2 = .ok (.iload_n 3, 1) := by decide +kernel
theorem dX12_shorten_3 : decode cX12_shorten 3 = .ok (.bipush 60, 2) := by decide +kernel
theorem dX12_shorten_5 : decode cX12_shorten 5 = .ok (.if_icmp .ge 20, 3) := by decide +kernel
theorem dX12_shorten_8 : decode cX12_shorten 8 = .ok (.aload_n 0, 1) := by decide +kernel
theorem dX12_shorten_9 : decode cX12_shorten 9 = .ok (.getfield 9, 3) := by decide +kernel
theorem dX12_shorten_12 : decode cX12_shorten 12 = .ok (.iload_n 1, 1) := by decide +kernel
theorem dX12_shorten_13 : decode cX12_shorten 13 = .ok (.iload_n 3, 1) := by decide +kernel
theorem dX12_shorten_14 : decode cX12_shorten 14 = .ok (.invokestatic 149, 3) := by decide +kernel
theorem dX12_shorten_17 : decode cX12_shorten 17 = .ok (.iconst 0, 1) := by decide +kernel
theorem dX12_shorten_18 : decode cX12_shorten 18 = .ok (.iastore, 1) := by decide +kernel
theorem dX12_shorten_19 : decode cX12_shorten 19 = .ok (.iinc 3 1, 3) := by decide +kernel
theorem dX12_shorten_22 : decode cX12_shorten 22 = .ok (.goto (-20), 3) := by decide +kernel
theorem dX12_shorten_25 : decode cX12_shorten 25 = .ok (.aload_n 0, 1) := by decide +kernel
theorem dX12_shorten_26 : decode cX12_shorten 26 = .ok (.getfield 9, 3) := by decide +kernel
theorem dX12_shorten_29 : decode cX12_shorten 29 = .ok (.iconst 3, 1) := by decide +kernel
theorem dX12_shorten_30 : decode cX12_shorten 30 = .ok (.iload_n 1, 1) := by decide +kernel
theorem dX12_shorten_31 : decode cX12_shorten 31 = .ok (.iadd, 1) := by decide +kernel
theorem dX12_shorten_32 : decode cX12_shorten 32 = .ok (.iload_n 2, 1) := by decide +kernel
theorem dX12_shorten_33 : decode cX12_shorten 33 = .ok (.iastore, 1) := by decide +kernel
theorem dX12_shorten_34 : decode cX12_shorten 34 = .ok (.return_, 1) := by decide +kernel
set_option maxRecDepth 100000 in
theorem t_X12_shorten_2 (G : MG) (hG : (g_l G).stackTraces = false) (d : Nat) (hd : 1 ≤ d)    : ∀ (n : Nat) (σ : MsSt) (l0 : Nat) (l1 : Int32) (l2 : Int32) (l3 : Int32) (h0 : ms_kd l0 = 13), TrO G mX12_shorten d 0 0 0 0 ms_wv 2 [(0, .ref l0), (1, .int l1), (2, .int l2), (3, .int l3)] [] σ (f_X12_shorten_2 n σ l0 l1 l2 l3) := by
  intro n
  induction n with
  | zero => exact fun _ _ _ _ _ _ => tr_none
  | succ n ih =>
    intro σ l0 l1 l2 l3 h0
    show TrO G mX12_shorten d 0 0 0 0 ms_wv 2 [(0, .ref l0), (1, .int l1), (2, .int l2), (3, .int l3)] [] σ (if l3 < 60 then (f_X12_spot σ l1 l3).bind fun v2 => (ms_ast σ (ms_rf l0 0) v2 0).bind fun s3 => (f_X12_shorten_2 n) s3 l0 l1 l2 (l3 + 1) else (ms_ast σ (ms_rf l0 0) (3 + l1) l2).bind fun s1 => some s1)
    refine tr_iload_n (i := 3) dX12_shorten_2 rfl ?_
    refine tr_bipush (v := 60) dX12_shorten_3 (by decide +kernel) ?_
    refine tr_icge (o := none) (tgt := 25) dX12_shorten_5 (by decide) ?_ ?_
    · refine tr_aload_n (i := 0) dX12_shorten_25 rfl ?_
      refine tr_getR 12 h0 fl_X12_9 (by decide +kernel) dX12_shorten_26 ?_
      refine tr_iconst (v := 3) dX12_shorten_29 (by decide +kernel) ?_
      refine tr_iload_n (i := 1) dX12_shorten_30 rfl ?_
      refine tr_iadd dX12_shorten_31 ?_
      refine tr_iload_n (i := 2) dX12_shorten_32 rfl ?_
      refine tr_ast (rk_12_0 h0) dX12_shorten_33 (fun s1 => ?_)
      exact tr_vret rfl rfl (by decide) (by decide) dX12_shorten_34
    · refine tr_aload_n (i := 0) dX12_shorten_8 rfl ?_
      refine tr_getR 12 h0 fl_X12_9 (by decide +kernel) dX12_shorten_9 ?_
      refine tr_iload_n (i := 1) dX12_shorten_12 rfl ?_
      refine tr_iload_n (i := 3) dX12_shorten_13 rfl ?_
      refine tr_c_i (ms_cS (rest := [.ref (ms_rf l0 0)]) (al := [.int l1, .int l3]) (sp_X12_spot G hG (d - 1) (by omega) σ l1 l3) kl_X12_149 fs_X12_spot dX12_shorten_14 (show _ = some 2 by decide +kernel) (by omega) (Nat.le_of_ble_eq_true rfl) (by decide) (by decide)) (fun v2 => ?_)
      refine tr_iconst (v := 0) dX12_shorten_17 (by decide +kernel) ?_
      refine tr_ast (rk_12_0 h0) dX12_shorten_18 (fun s3 => ?_)
      refine tr_iinc (k := 3) (v := (l3 + 1)) (lv' := [(0, .ref l0), (1, .int l1), (2, .int l2), (3, .int (l3 + 1))]) [1, 2, 3, 0] dX12_shorten_19 rfl rfl (by decide) rfl ?_
      refine tr_goto (tgt := 2) dX12_shorten_22 (by decide) ?_
      exact (fun s y0 y1 y2 y3 g0 => ih s y0 y1 y2 y3 g0) s3 l0 l1 l2 (l3 + 1) h0
set_option maxRecDepth 100000 in
theorem sp_X12_shorten (G : MG) (hG : (g_l G).stackTraces = false) (d : Nat) (hd : 1 ≤ d)   (σ : MsSt) (l0 : Nat) (l1 : Int32) (l2 : Int32) (h0 : ms_kd l0 = 13) : MsSpec G mX12_shorten d 0 0 [.ref l0, .int l1, .int l2] σ ms_wv (f_X12_shorten σ l0 l1 l2) := by
  refine ms_start (by decide +kernel) rfl rfl (Nat.le_of_ble_eq_true rfl) ?_
  show TrO G mX12_shorten d 0 0 0 0 ms_wv 0 [(0, .ref l0), (1, .int l1), (2, .int l2)] [] σ (f_X12_shorten_2 ms_fuel σ l0 l1 l2 l2)
  refine tr_iload_n (i := 2) dX12_shorten_0 rfl ?_
  refine tr_istore_n (lv' := [(0, .ref l0), (1, .int l1), (2, .int l2), (3, .int l2)]) [1, 2, 3, 0] dX12_shorten_1 (by decide) rfl ?_
  exact t_X12_shorten_2 G hG d hd ms_fuel σ l0 l1 l2 l2 h0
theorem dX12_erase_0 : decode cX12_erase 0 = .ok (.aload_n 0, 1) := by decide +kernel
theorem dX12_erase_1 : decode cX12_erase 1 = .ok (.aload_n 0, 1) := by decide +kernel
theorem dX12_erase_2 : decode cX12_erase 2 = .ok (.iload_n 1, 1) := by decide +kernel
theorem dX12_erase_3 : decode cX12_erase 3 = .ok (.iload_n 2, 1) := by decide +kernel
theorem dX12_erase_4 : decode cX12_erase 4 = .ok (.invokevirtual 274, 3) := by decide +kernel
theorem dX12_erase_7 : decode cX12_erase 7 = .ok (.ifCond .eq 12, 3) := by decide +kernel
theorem dX12_erase_10 : decode cX12_erase 10 = .ok (.aload_n 0, 1) := by decide +kernel
theorem dX12_erase_11 : decode cX12_erase 11 = .ok (.iload_n 1, 1) := by decide +kernel
theorem dX12_erase_12 : decode cX12_erase 12 = .ok (.iload_n 3, 1) := by decide +kernel
theorem dX12_erase_13 : decode cX12_erase 13 = .ok (.invokevirtual 274, 3) := by decide +kernel
theorem dX12_erase_16 : decode cX12_erase 16 = .ok (.ifCond .ne 7, 3) := by decide +kernel
theorem dX12_erase_19 : decode cX12_erase 19 = .ok (.iconst 1, 1) := by decide +kernel
theorem dX12_erase_20 : decode cX12_erase 20 = .ok (.goto 13, 3) := by decide +kernel
theorem dX12_erase_23 : decode cX12_erase 23 = .ok (.iload_n 3, 1) := by decide +kernel
theorem dX12_erase_24 : decode cX12_erase 24 = .ok (.iload_n 2, 1) := by decide +kernel
theorem dX12_erase_25 : decode cX12_erase 25 = .ok (.if_icmp .ge 7, 3) := by decide +kernel
theorem dX12_erase_28 : decode cX12_erase 28 = .ok (.iconst 2, 1) := by decide +kernel
theorem dX12_erase_29 : decode cX12_erase 29 = .ok (.goto 4, 3) := by decide +kernel
theorem dX12_erase_32 : decode cX12_erase 32 = .ok (.iconst 0, 1) := by decide +kernel
theorem dX12_erase_33 : decode cX12_erase 33 = .ok (.putfield 107, 3) := by decide +kernel
theorem dX12_erase_36 : decode cX12_erase 36 = .ok (.aload_n 0, 1) := by decide +kernel
theorem dX12_erase_37 : decode cX12_erase 37 = .ok (.getfield 107, 3) := by decide +kernel
theorem dX12_erase_40 : decode cX12_erase 40 = .ok (.ifCond .eq 5, 3) := by decide +kernel
theorem dX12_erase_43 : decode cX12_erase 43 = .ok (.iconst 0, 1) := by decide +kernel
theorem dX12_erase_44 : decode cX12_erase 44 = .ok (.ireturn, 1) := by decide +kernel
theorem dX12_erase_45 : decode cX12_erase 45 = .ok (.aload_n 0, 1) := by decide +kernel
theorem dX12_erase_46 : decode cX12_erase 46 = .ok (.invokevirtual 319, 3) := by decide +kernel
theorem dX12_erase_49 : decode cX12_erase 49 = .ok (.iload_n 3, 1) := by decide +kernel
theorem dX12_erase_50 : decode cX12_erase 50 = .ok (.iload_n 2, 1) := by decide +kernel
theorem dX12_erase_51 : decode cX12_erase 51 = .ok (.isub, 1) := by decide +kernel
theorem dX12_erase_52 : decode cX12_erase 52 = .ok (.iconst 1, 1) := by decide +kernel
theorem dX12_erase_53 : decode cX12_erase 53 = .ok (.iadd, 1) := by decide +kernel
theorem dX12_erase_54 : decode cX12_erase 54 = .ok (.istore 4, 2) := by decide +kernel
theorem dX12_erase_56 : decode cX12_erase 56 = .ok (.aload_n 0, 1) := by decide +kernel
theorem dX12_erase_57 : decode cX12_erase 57 = .ok (.getfield 9, 3) := by decide +kernel
theorem dX12_erase_60 : decode cX12_erase 60 = .ok (.iconst 3, 1) := by decide +kernel
theorem dX12_erase_61 : decode cX12_erase 61 = .ok (.iload_n 1, 1) := by decide +kernel
theorem dX12_erase_62 : decode cX12_erase 62 = .ok (.iadd, 1) := by decide +kernel
theorem dX12_erase_63 : decode cX12_erase 63 = .ok (.iaload, 1) := by decide +kernel
theorem dX12_erase_64 : decode cX12_erase 64 = .ok (.iload 4, 2) := by decide +kernel
theorem dX12_erase_66 : decode cX12_erase 66 = .ok (.isub, 1) := by decide +kernel
theorem dX12_erase_67 : decode cX12_erase 67 = .ok (.istore 5, 2) := by decide +kernel
theorem dX12_erase_69 : decode cX12_erase 69 = .ok (.iload_n 2, 1) := by decide +kernel
theorem dX12_erase_70 : decode cX12_erase 70 = .ok (.istore 6, 2) := by decide +kernel
theorem dX12_erase_72 : decode cX12_erase 72 = .ok (.iload 6, 2) := by decide +kernel
theorem dX12_erase_74 : decode cX12_erase 74 = .ok (.iload 5, 2) := by decide +kernel
theorem dX12_erase_76 : decode cX12_erase 76 = .ok (.if_icmp .ge 34, 3) := by decide +kernel
theorem dX12_erase_79 : decode cX12_erase 79 = .ok (.aload_n 0, 1) := by decide +kernel
theorem dX12_erase_80 : decode cX12_erase 80 = .ok (.getfield 9, 3) := by decide +kernel
theorem dX12_erase_83 : decode cX12_erase 83 = .ok (.iload_n 1, 1) := by decide +kernel
theorem dX12_erase_84 : decode cX12_erase 84 = .ok (.iload 6, 2) := by decide +kernel
theorem dX12_erase_86 : decode cX12_erase 86 = .ok (.invokestatic 149, 3) := by decide +kernel
theorem dX12_erase_89 : decode cX12_erase 89 = .ok (.aload_n 0, 1) := by decide +kernel
theorem dX12_erase_90 : decode cX12_erase 90 = .ok (.getfield 9, 3) := by decide +kernel
theorem dX12_erase_93 : decode cX12_erase 93 = .ok (.iload_n 1, 1) := by decide +kernel
theorem dX12_erase_94 : decode cX12_erase 94 = .ok (.iload 6, 2) := by decide +kernel
theorem dX12_erase_96 : decode cX12_erase 96 = .ok (.iload 4, 2) := by decide +kernel
theorem dX12_erase_98 : decode cX12_erase 98 = .ok (.iadd, 1) := by decide +kernel
theorem dX12_erase_99 : decode cX12_erase 99 = .ok (.invokestatic 149, 3) := by decide +kernel
theorem dX12_erase_102 : decode cX12_erase 102 = .ok (.iaload, 1) := by decide +kernel
theorem dX12_erase_103 : decode cX12_erase 103 = .ok (.iastore, 1) := by decide +kernel
theorem dX12_erase_104 : decode cX12_erase 104 = .ok (.iinc 6 1, 3) := by decide +kernel
theorem dX12_erase_107 : decode cX12_erase 107 = .ok (.goto (-35), 3) := by decide +kernel
theorem dX12_erase_110 : decode cX12_erase 110 = .ok (.aload_n 0, 1) := by decide +kernel
theorem dX12_erase_111 : decode cX12_erase 111 = .ok (.iload_n 1, 1) := by decide +kernel
theorem dX12_erase_112 : decode cX12_erase 112 = .ok (.iload 5, 2) := by decide +kernel
theorem dX12_erase_114 : decode cX12_erase 114 = .ok (.invokevirtual 322, 3) := by decide +kernel
theorem dX12_erase_117 : decode cX12_erase 117 = .ok (.iload 5, 2) := by decide +kernel
theorem dX12_erase_119 : decode cX12_erase 119 = .ok (.ireturn, 1) := by decide +kernel
set_option maxRecDepth 100000 in
theorem t_X12_erase_72 (G : MG) (hG : (g_l G).stackTraces = false) (d : Nat) (hd : 3 ≤ d)    : ∀ (n : Nat) (σ : MsSt) (l0 : Nat) (l1 : Int32) (l4 : Int32) (l5 : Int32) (l6 : Int32) (h0 : ms_kd l0 = 13), TrO G mX12_erase d 0 0 0 0 ms_wi 72 [(0, .ref l0), (1, .int l1), (4, .int l4), (5, .int l5), (6, .int l6)] [] σ (f_X12_erase_72 n σ l0 l1 l4 l5 l6) := by
  intro n
  induction n with
  | zero => exact fun _ _ _ _ _ _ _ => tr_none
  | succ n ih =>
    intro σ l0 l1 l4 l5 l6 h0
    show TrO G mX12_erase d 0 0 0 0 ms_wi 72 [(0, .ref l0), (1, .int l1), (4, .int l4), (5, .int l5), (6, .int l6)] [] σ (if l6 < l5 then (f_X12_spot σ l1 l6).bind fun v6 => (f_X12_spot σ l1 (l6 + l4)).bind fun v7 => (ms_ald σ (ms_rf l0 0) v7).bind fun v8 => (ms_ast σ (ms_rf l0 0) v6 v8).bind fun s9 => (f_X12_erase_72 n) s9 l0 l1 l4 l5 (l6 + 1) else (f_X12_shorten σ l0 l1 l5).bind fun s5 => some (l5, s5))
    refine tr_iload (i := 4) dX12_erase_72 rfl ?_
    refine tr_iload (i := 3) dX12_erase_74 rfl ?_
    refine tr_icge (o := none) (tgt := 110) dX12_erase_76 (by decide) ?_ ?_
    · refine tr_aload_n (i := 0) dX12_erase_110 rfl ?_
      refine tr_iload_n (i := 1) dX12_erase_111 rfl ?_
      refine tr_iload (i := 3) dX12_erase_112 rfl ?_
      refine tr_c_wv (ms_cV (rest := []) (al := [.int l1, .int l5]) 12 (sp_X12_shorten G hG (d - 1) (by omega) σ l0 l1 l5 h0) h0 (by decide +kernel) kl_X12_322 fv_X12_shorten dX12_erase_114 (show _ = some 2 by decide +kernel) (by omega) (Nat.le_of_ble_eq_true rfl) (by decide) (by decide)) (fun s5 => ?_)
      refine tr_iload (i := 3) dX12_erase_117 rfl ?_
      exact tr_iret rfl rfl (by decide) (by decide) dX12_erase_119
    · refine tr_aload_n (i := 0) dX12_erase_79 rfl ?_
      refine tr_getR 12 h0 fl_X12_9 (by decide +kernel) dX12_erase_80 ?_
      refine tr_iload_n (i := 1) dX12_erase_83 rfl ?_
      refine tr_iload (i := 4) dX12_erase_84 rfl ?_
      refine tr_c_i (ms_cS (rest := [.ref (ms_rf l0 0)]) (al := [.int l1, .int l6]) (sp_X12_spot G hG (d - 1) (by omega) σ l1 l6) kl_X12_149 fs_X12_spot dX12_erase_86 (show _ = some 2 by decide +kernel) (by omega) (Nat.le_of_ble_eq_true rfl) (by decide) (by decide)) (fun v6 => ?_)
      refine tr_aload_n (i := 0) dX12_erase_89 rfl ?_
      refine tr_getR 12 h0 fl_X12_9 (by decide +kernel) dX12_erase_90 ?_
      refine tr_iload_n (i := 1) dX12_erase_93 rfl ?_
      refine tr_iload (i := 4) dX12_erase_94 rfl ?_
      refine tr_iload (i := 2) dX12_erase_96 rfl ?_
      refine tr_iadd dX12_erase_98 ?_
      refine tr_c_i (ms_cS (rest := [.ref (ms_rf l0 0), .int v6, .ref (ms_rf l0 0)]) (al := [.int l1, .int (l6 + l4)]) (sp_X12_spot G hG (d - 1) (by omega) σ l1 (l6 + l4)) kl_X12_149 fs_X12_spot dX12_erase_99 (show _ = some 2 by decide +kernel) (by omega) (Nat.le_of_ble_eq_true rfl) (by decide) (by decide)) (fun v7 => ?_)
      refine tr_ald (rk_12_0 h0) dX12_erase_102 (fun v8 => ?_)
      refine tr_ast (rk_12_0 h0) dX12_erase_103 (fun s9 => ?_)
      refine tr_iinc (k := 4) (v := (l6 + 1)) (lv' := [(0, .ref l0), (1, .int l1), (4, .int l4), (5, .int l5), (6, .int (l6 + 1))]) [1, 2, 3, 4, 0] dX12_erase_104 rfl rfl (by decide) rfl ?_
      refine tr_goto (tgt := 72) dX12_erase_107 (by decide) ?_
      exact (fun s y0 y1 y2 y3 y4 g0 => ih s y0 y1 y2 y3 y4 g0) s9 l0 l1 l4 l5 (l6 + 1) h0
set_option maxRecDepth 100000 in
theorem t_X12_erase_33 (G : MG) (hG : (g_l G).stackTraces = false) (d : Nat) (hd : 3 ≤ d)    (σ : MsSt) (l0 : Nat) (l1 : Int32) (l2 : Int32) (l3 : Int32) (t0 : Int32) (t1 : Nat) (h0 : ms_kd l0 = 13) (ht1 : ms_kd t1 = 13) : TrO G mX12_erase d 0 0 0 0 ms_wi 33 [(0, .ref l0), (1, .int l1), (2, .int l2), (3, .int l3)] [.int t0, .ref t1] σ (f_X12_erase_33 σ l0 l1 l2 l3 t0 t1) := by
  show TrO G mX12_erase d 0 0 0 0 ms_wi 33 [(0, .ref l0), (1, .int l1), (2, .int l2), (3, .int l3)] [.int t0, .ref t1] σ (ms_nm (ms_si σ t1 7 t0) fun s2 => if (ms_i s2 l0 7) = 0 then (f_X12_record s2 l0).bind fun s3 => (ms_ald s3 (ms_rf l0 0) (3 + l1)).bind fun v4 => f_X12_erase_72 ms_fuel s3 l0 l1 ((l3 - l2) + 1) (v4 - ((l3 - l2) + 1)) l2 else some (0, s2))
  refine tr_putI 12 ht1 fl_X12_107 (by decide +kernel) dX12_erase_33 ?_
  refine ms_ltS (fun s2 => ?_)
  refine tr_aload_n (i := 0) dX12_erase_36 rfl ?_
  refine tr_getI 12 h0 fl_X12_107 (by decide +kernel) dX12_erase_37 ?_
  refine tr_ifeq (o := none) (tgt := 45) dX12_erase_40 (by decide) ?_ ?_
  · refine tr_aload_n (i := 0) dX12_erase_45 rfl ?_
    refine tr_c_wv (ms_cV (rest := []) (al := []) 12 (sp_X12_record G hG (d - 1) (by omega) s2 l0 h0) h0 (by decide +kernel) kl_X12_319 fv_X12_record dX12_erase_46 (show _ = some 0 by decide +kernel) (by omega) (Nat.le_of_ble_eq_true rfl) (by decide) (by decide)) (fun s3 => ?_)
    refine tr_iload_n (i := 3) dX12_erase_49 rfl ?_
    refine tr_iload_n (i := 2) dX12_erase_50 rfl ?_
    refine tr_isub dX12_erase_51 ?_
    refine tr_iconst (v := 1) dX12_erase_52 (by decide +kernel) ?_
    refine tr_iadd dX12_erase_53 ?_
    refine tr_istore (lv' := [(0, .ref l0), (1, .int l1), (2, .int l2), (4, .int ((l3 - l2) + 1))]) [1, 2, 3, 0] dX12_erase_54 (by decide) rfl ?_
    refine tr_aload_n (i := 0) dX12_erase_56 rfl ?_
    refine tr_getR 12 h0 fl_X12_9 (by decide +kernel) dX12_erase_57 ?_
    refine tr_iconst (v := 3) dX12_erase_60 (by decide +kernel) ?_
    refine tr_iload_n (i := 1) dX12_erase_61 rfl ?_
    refine tr_iadd dX12_erase_62 ?_
    refine tr_ald (rk_12_0 h0) dX12_erase_63 (fun v4 => ?_)
    refine tr_iload (i := 3) dX12_erase_64 rfl ?_
    refine tr_isub dX12_erase_66 ?_
    refine tr_istore (lv' := [(0, .ref l0), (1, .int l1), (2, .int l2), (4, .int ((l3 - l2) + 1)), (5, .int (v4 - ((l3 - l2) + 1)))]) [1, 2, 3, 4, 0] dX12_erase_67 (by decide) rfl ?_
    refine tr_iload_n (i := 2) dX12_erase_69 rfl ?_
    refine tr_istore (lv' := [(0, .ref l0), (1, .int l1), (4, .int ((l3 - l2) + 1)), (5, .int (v4 - ((l3 - l2) + 1))), (6, .int l2)]) [1, 2, 4, 5, 0] dX12_erase_70 (by decide) rfl ?_
    exact t_X12_erase_72 G hG d hd ms_fuel s3 l0 l1 ((l3 - l2) + 1) (v4 - ((l3 - l2) + 1)) l2 h0
  · refine tr_iconst (v := 0) dX12_erase_43 (by decide +kernel) ?_
    exact tr_iret rfl rfl (by decide) (by decide) dX12_erase_44
set_option maxRecDepth 100000 in
theorem t_X12_erase_19 (G : MG) (hG : (g_l G).stackTraces = false) (d : Nat) (hd : 3 ≤ d)    (σ : MsSt) (l0 : Nat) (l1 : Int32) (l2 : Int32) (l3 : Int32) (t0 : Nat) (h0 : ms_kd l0 = 13) (ht0 : ms_kd t0 = 13) : TrO G mX12_erase d 0 0 0 0 ms_wi 19 [(0, .ref l0), (1, .int l1), (2, .int l2), (3, .int l3)] [.ref t0] σ (f_X12_erase_19 σ l0 l1 l2 l3 t0) := by
  show TrO G mX12_erase d 0 0 0 0 ms_wi 19 [(0, .ref l0), (1, .int l1), (2, .int l2), (3, .int l3)] [.ref t0] σ (f_X12_erase_33 σ l0 l1 l2 l3 1 t0)
  refine tr_iconst (v := 1) dX12_erase_19 (by decide +kernel) ?_
  refine tr_goto (tgt := 33) dX12_erase_20 (by decide) ?_
  exact t_X12_erase_33 G hG d hd σ l0 l1 l2 l3 1 t0 h0 ht0
set_option maxRecDepth 100000 in
theorem sp_X12_erase (G : MG) (hG : (g_l G).stackTraces = false) (d : Nat) (hd : 3 ≤ d)   (σ : MsSt) (l0 : Nat) (l1 : Int32) (l2 : Int32) (l3 : Int32) (h0 : ms_kd l0 = 13) : MsSpec G mX12_erase d 0 0 [.ref l0, .int l1, .int l2, .int l3] σ ms_wi (f_X12_erase σ l0 l1 l2 l3) := by
  refine ms_start (by decide +kernel) rfl rfl (Nat.le_of_ble_eq_true rfl) ?_
  show TrO G mX12_erase d 0 0 0 0 ms_wi 0 [(0, .ref l0), (1, .int l1), (2, .int l2), (3, .int l3)] [] σ ((f_X12_isPlace σ l0 l1 l2).bind fun v1 => if v1 = 0 then f_X12_erase_19 σ l0 l1 l2 l3 l0 else (f_X12_isPlace σ l0 l1 l3).bind fun v10 => if v10 = 0 then f_X12_erase_19 σ l0 l1 l2 l3 l0 else if l3 < l2 then f_X12_erase_33 σ l0 l1 l2 l3 2 l0 else f_X12_erase_33 σ l0 l1 l2 l3 0 l0)
  refine tr_aload_n (i := 0) dX12_erase_0 rfl ?_
  refine tr_aload_n (i := 0) dX12_erase_1 rfl ?_
  refine tr_iload_n (i := 1) dX12_erase_2 rfl ?_
  refine tr_iload_n (i := 2) dX12_erase_3 rfl ?_
  refine tr_c_i (ms_cV (rest := [.ref l0]) (al := [.int l1, .int l2]) 12 (sp_X12_isPlace G hG (d - 1) (by omega) σ l0 l1 l2 h0) h0 (by decide +kernel) kl_X12_274 fv_X12_isPlace dX12_erase_4 (show _ = some 2 by decide +kernel) (by omega) (Nat.le_of_ble_eq_true rfl) (by decide) (by decide)) (fun v1 => ?_)
  refine tr_ifeq (o := none) (tgt := 19) dX12_erase_7 (by decide) ?_ ?_
  · exact t_X12_erase_19 G hG d hd σ l0 l1 l2 l3 l0 h0 h0
  · refine tr_aload_n (i := 0) dX12_erase_10 rfl ?_
    refine tr_iload_n (i := 1) dX12_erase_11 rfl ?_
    refine tr_iload_n (i := 3) dX12_erase_12 rfl ?_
    refine tr_c_i (ms_cV (rest := [.ref l0]) (al := [.int l1, .int l3]) 12 (sp_X12_isPlace G hG (d - 1) (by omega) σ l0 l1 l3 h0) h0 (by decide +kernel) kl_X12_274 fv_X12_isPlace dX12_erase_13 (show _ = some 2 by decide +kernel) (by omega) (Nat.le_of_ble_eq_true rfl) (by decide) (by decide)) (fun v10 => ?_)
    refine tr_ifne (o := none) (tgt := 23) dX12_erase_16 (by decide) ?_ ?_
    · refine tr_iload_n (i := 3) dX12_erase_23 rfl ?_
      refine tr_iload_n (i := 2) dX12_erase_24 rfl ?_
      refine tr_icge (o := none) (tgt := 32) dX12_erase_25 (by decide) ?_ ?_
      · refine tr_iconst (v := 0) dX12_erase_32 (by decide +kernel) ?_
        exact t_X12_erase_33 G hG d hd σ l0 l1 l2 l3 0 l0 h0 h0
      · refine tr_iconst (v := 2) dX12_erase_28 (by decide +kernel) ?_
        refine tr_goto (tgt := 33) dX12_erase_29 (by decide) ?_
        exact t_X12_erase_33 G hG d hd σ l0 l1 l2 l3 2 l0 h0 h0
    · exact t_X12_erase_19 G hG d hd σ l0 l1 l2 l3 l0 h0 h0
theorem dX12_write_0 : decode cX12_write 0 = .ok (.aload_n 0, 1) := by decide +kernel
theorem dX12_write_1 : decode cX12_write 1 = .ok (.invokevirtual 319, 3) := by decide +kernel
theorem dX12_write_4 : decode cX12_write 4 = .ok (.iconst 0, 1) := by decide +kernel
theorem dX12_write_5 : decode cX12_write 5 = .ok (.istore 4, 2) := by decide +kernel
theorem dX12_write_7 : decode cX12_write 7 = .ok (.iload 4, 2) := by decide +kernel
theorem dX12_write_9 : decode cX12_write 9 = .ok (.iload_n 3, 1) := by decide +kernel
theorem dX12_write_10 : decode cX12_write 10 = .ok (.if_icmp .ge 24, 3) := by decide +kernel
theorem dX12_write_13 : decode cX12_write 13 = .ok (.aload_n 0, 1) := by decide +kernel
theorem dX12_write_14 : decode cX12_write 14 = .ok (.getfield 9, 3) := by decide +kernel
theorem dX12_write_17 : decode cX12_write 17 = .ok (.iload_n 1, 1) := by decide +kernel
theorem dX12_write_18 : decode cX12_write 18 = .ok (.iload 4, 2) := by decide +kernel
theorem dX12_write_20 : decode cX12_write 20 = .ok (.invokestatic 149, 3) := by decide +kernel
theorem dX12_write_23 : decode cX12_write 23 = .ok (.aload_n 2, 1) := by decide +kernel
theorem dX12_write_24 : decode cX12_write 24 = .ok (.iload 4, 2) := by decide +kernel
theorem dX12_write_26 : decode cX12_write 26 = .ok (.iaload, 1) := by decide +kernel
theorem dX12_write_27 : decode cX12_write 27 = .ok (.iastore, 1) := by decide +kernel
theorem dX12_write_28 : decode cX12_write 28 = .ok (.iinc 4 1, 3) := by decide +kernel
theorem dX12_write_31 : decode cX12_write 31 = .ok (.goto (-24), 3) := by decide +kernel
theorem dX12_write_34 : decode cX12_write 34 = .ok (.aload_n 0, 1) := by decide +kernel
theorem dX12_write_35 : decode cX12_write 35 = .ok (.iload_n 1, 1) := by decide +kernel
theorem dX12_write_36 : decode cX12_write 36 = .ok (.iload_n 3, 1) := by decide +kernel
theorem dX12_write_37 : decode cX12_write 37 = .ok (.invokevirtual 322, 3) := by decide +kernel
theorem dX12_write_40 : decode cX12_write 40 = .ok (.return_, 1) := by decide +kernel
set_option maxRecDepth 100000 in
theorem t_X12_write_7 (G : MG) (hG : (g_l G).stackTraces = false) (d : Nat) (hd : 2 ≤ d)    : ∀ (n : Nat) (σ : MsSt) (l0 : Nat) (l1 : Int32) (l2 : Nat) (l3 : Int32) (l4 : Int32) (h0 : ms_kd l0 = 13) (h2 : ms_kd l2 = 20), TrO G mX12_write d 0 0 0 0 ms_wv 7 [(0, .ref l0), (1, .int l1), (2, .ref l2), (3, .int l3), (4, .int l4)] [] σ (f_X12_write_7 n σ l0 l1 l2 l3 l4) := by
  intro n
  induction n with
  | zero => exact fun _ _ _ _ _ _ _ _ => tr_none
  | succ n ih =>
    intro σ l0 l1 l2 l3 l4 h0 h2
    show TrO G mX12_write d 0 0 0 0 ms_wv 7 [(0, .ref l0), (1, .int l1), (2, .ref l2), (3, .int l3), (4, .int l4)] [] σ (if l4 < l3 then (f_X12_spot σ l1 l4).bind fun v3 => (ms_ald σ l2 l4).bind fun v4 => (ms_ast σ (ms_rf l0 0) v3 v4).bind fun s5 => (f_X12_write_7 n) s5 l0 l1 l2 l3 (l4 + 1) else (f_X12_shorten σ l0 l1 l3).bind fun s2 => some s2)
    refine tr_iload (i := 4) dX12_write_7 rfl ?_
    refine tr_iload_n (i := 3) dX12_write_9 rfl ?_
    refine tr_icge (o := none) (tgt := 34) dX12_write_10 (by decide) ?_ ?_
    · refine tr_aload_n (i := 0) dX12_write_34 rfl ?_
      refine tr_iload_n (i := 1) dX12_write_35 rfl ?_
      refine tr_iload_n (i := 3) dX12_write_36 rfl ?_
      refine tr_c_wv (ms_cV (rest := []) (al := [.int l1, .int l3]) 12 (sp_X12_shorten G hG (d - 1) (by omega) σ l0 l1 l3 h0) h0 (by decide +kernel) kl_X12_322 fv_X12_shorten dX12_write_37 (show _ = some 2 by decide +kernel) (by omega) (Nat.le_of_ble_eq_true rfl) (by decide) (by decide)) (fun s2 => ?_)
      exact tr_vret rfl rfl (by decide) (by decide) dX12_write_40
    · refine tr_aload_n (i := 0) dX12_write_13 rfl ?_
      refine tr_getR 12 h0 fl_X12_9 (by decide +kernel) dX12_write_14 ?_
      refine tr_iload_n (i := 1) dX12_write_17 rfl ?_
      refine tr_iload (i := 4) dX12_write_18 rfl ?_
      refine tr_c_i (ms_cS (rest := [.ref (ms_rf l0 0)]) (al := [.int l1, .int l4]) (sp_X12_spot G hG (d - 1) (by omega) σ l1 l4) kl_X12_149 fs_X12_spot dX12_write_20 (show _ = some 2 by decide +kernel) (by omega) (Nat.le_of_ble_eq_true rfl) (by decide) (by decide)) (fun v3 => ?_)
      refine tr_aload_n (i := 2) dX12_write_23 rfl ?_
      refine tr_iload (i := 4) dX12_write_24 rfl ?_
      refine tr_ald h2 dX12_write_26 (fun v4 => ?_)
      refine tr_ast (rk_12_0 h0) dX12_write_27 (fun s5 => ?_)
      refine tr_iinc (k := 4) (v := (l4 + 1)) (lv' := [(0, .ref l0), (1, .int l1), (2, .ref l2), (3, .int l3), (4, .int (l4 + 1))]) [1, 2, 3, 4, 0] dX12_write_28 rfl rfl (by decide) rfl ?_
      refine tr_goto (tgt := 7) dX12_write_31 (by decide) ?_
      exact (fun s y0 y1 y2 y3 y4 g0 g1 => ih s y0 y1 y2 y3 y4 g0 g1) s5 l0 l1 l2 l3 (l4 + 1) h0 h2
set_option maxRecDepth 100000 in
theorem sp_X12_write (G : MG) (hG : (g_l G).stackTraces = false) (d : Nat) (hd : 2 ≤ d)   (σ : MsSt) (l0 : Nat) (l1 : Int32) (l2 : Nat) (l3 : Int32) (h0 : ms_kd l0 = 13) (h2 : ms_kd l2 = 20) : MsSpec G mX12_write d 0 0 [.ref l0, .int l1, .ref l2, .int l3] σ ms_wv (f_X12_write σ l0 l1 l2 l3) := by
  refine ms_start (by decide +kernel) rfl rfl (Nat.le_of_ble_eq_true rfl) ?_
  show TrO G mX12_write d 0 0 0 0 ms_wv 0 [(0, .ref l0), (1, .int l1), (2, .ref l2), (3, .int l3)] [] σ ((f_X12_record σ l0).bind fun s1 => f_X12_write_7 ms_fuel s1 l0 l1 l2 l3 0)
  refine tr_aload_n (i := 0) dX12_write_0 rfl ?_
  refine tr_c_wv (ms_cV (rest := []) (al := []) 12 (sp_X12_record G hG (d - 1) (by omega) σ l0 h0) h0 (by decide +kernel) kl_X12_319 fv_X12_record dX12_write_1 (show _ = some 0 by decide +kernel) (by omega) (Nat.le_of_ble_eq_true rfl) (by decide) (by decide)) (fun s1 => ?_)
  refine tr_iconst (v := 0) dX12_write_4 (by decide +kernel) ?_
  refine tr_istore (lv' := [(0, .ref l0), (1, .int l1), (2, .ref l2), (3, .int l3), (4, .int 0)]) [1, 2, 3, 4, 0] dX12_write_5 (by decide) rfl ?_
  exact t_X12_write_7 G hG d hd ms_fuel s1 l0 l1 l2 l3 0 h0 h2
theorem dX12_stack_0 : decode cX12_stack 0 = .ok (.aload_n 0, 1) := by decide +kernel
theorem dX12_stack_1 : decode cX12_stack 1 = .ok (.aload_n 0, 1) := by decide +kernel
theorem dX12_stack_2 : decode cX12_stack 2 = .ok (.iload_n 1, 1) := by decide +kernel
theorem dX12_stack_3 : decode cX12_stack 3 = .ok (.iload_n 2, 1) := by decide +kernel
theorem dX12_stack_4 : decode cX12_stack 4 = .ok (.invokevirtual 183, 3) := by decide +kernel
theorem dX12_stack_7 : decode cX12_stack 7 = .ok (.ifCond .eq 11, 3) := by decide +kernel
theorem dX12_stack_10 : decode cX12_stack 10 = .ok (.aload_n 0, 1) := by decide +kernel
theorem dX12_stack_11 : decode cX12_stack 11 = .ok (.iload_n 3, 1) := by decide +kernel
theorem dX12_stack_12 : decode cX12_stack 12 = .ok (.invokevirtual 122, 3) := by decide +kernel
theorem dX12_stack_15 : decode cX12_stack 15 = .ok (.ifCond .ne 7, 3) := by decide +kernel
theorem dX12_stack_18 : decode cX12_stack 18 = .ok (.iconst 1, 1) := by decide +kernel
theorem dX12_stack_19 : decode cX12_stack 19 = .ok (.goto 16, 3) := by decide +kernel
theorem dX12_stack_22 : decode cX12_stack 22 = .ok (.aload_n 0, 1) := by decide +kernel
theorem dX12_stack_23 : decode cX12_stack 23 = .ok (.iload_n 3, 1) := by decide +kernel
theorem dX12_stack_24 : decode cX12_stack 24 = .ok (.invokevirtual 135, 3) := by decide +kernel
theorem dX12_stack_27 : decode cX12_stack 27 = .ok (.ifCond .eq 7, 3) := by decide +kernel
theorem dX12_stack_30 : decode cX12_stack 30 = .ok (.iconst 0, 1) := by decide +kernel
theorem dX12_stack_31 : decode cX12_stack 31 = .ok (.goto 4, 3) := by decide +kernel
theorem dX12_stack_34 : decode cX12_stack 34 = .ok (.iconst 2, 1) := by decide +kernel
theorem dX12_stack_35 : decode cX12_stack 35 = .ok (.putfield 107, 3) := by decide +kernel
theorem dX12_stack_38 : decode cX12_stack 38 = .ok (.aload_n 0, 1) := by decide +kernel
theorem dX12_stack_39 : decode cX12_stack 39 = .ok (.getfield 107, 3) := by decide +kernel
theorem dX12_stack_42 : decode cX12_stack 42 = .ok (.ifCond .eq 5, 3) := by decide +kernel
theorem dX12_stack_45 : decode cX12_stack 45 = .ok (.iconst 0, 1) := by decide +kernel
theorem dX12_stack_46 : decode cX12_stack 46 = .ok (.ireturn, 1) := by decide +kernel
theorem dX12_stack_47 : decode cX12_stack 47 = .ok (.aload_n 0, 1) := by decide +kernel
theorem dX12_stack_48 : decode cX12_stack 48 = .ok (.getfield 132, 3) := by decide +kernel
theorem dX12_stack_51 : decode cX12_stack 51 = .ok (.iconst 1, 1) := by decide +kernel
theorem dX12_stack_52 : decode cX12_stack 52 = .ok (.iadd, 1) := by decide +kernel
theorem dX12_stack_53 : decode cX12_stack 53 = .ok (.bipush 60, 2) := by decide +kernel
theorem dX12_stack_55 : decode cX12_stack 55 = .ok (.if_icmp .le 6, 3) := by decide +kernel
theorem dX12_stack_58 : decode cX12_stack 58 = .ok (.bipush (-2), 2) := by decide +kernel
theorem dX12_stack_60 : decode cX12_stack 60 = .ok (.ireturn, 1) := by decide +kernel
theorem dX12_stack_61 : decode cX12_stack 61 = .ok (.aload_n 0, 1) := by decide +kernel
theorem dX12_stack_62 : decode cX12_stack 62 = .ok (.getfield 40, 3) := by decide +kernel
theorem dX12_stack_65 : decode cX12_stack 65 = .ok (.iload_n 2, 1) := by decide +kernel
theorem dX12_stack_66 : decode cX12_stack 66 = .ok (.iconst 1, 1) := by decide +kernel
theorem dX12_stack_67 : decode cX12_stack 67 = .ok (.iadd, 1) := by decide +kernel
theorem dX12_stack_68 : decode cX12_stack 68 = .ok (.iaload, 1) := by decide +kernel
theorem dX12_stack_69 : decode cX12_stack 69 = .ok (.istore 4, 2) := by decide +kernel
theorem dX12_stack_71 : decode cX12_stack 71 = .ok (.iload 4, 2) := by decide +kernel
theorem dX12_stack_73 : decode cX12_stack 73 = .ok (.aload_n 0, 1) := by decide +kernel
theorem dX12_stack_74 : decode cX12_stack 74 = .ok (.iload_n 2, 1) := by decide +kernel
theorem dX12_stack_75 : decode cX12_stack 75 = .ok (.invokevirtual 174, 3) := by decide +kernel
theorem dX12_stack_78 : decode cX12_stack 78 = .ok (.if_icmp .le 40, 3) := by decide +kernel
theorem dX12_stack_81 : decode cX12_stack 81 = .ok (.aload_n 0, 1) := by decide +kernel
theorem dX12_stack_82 : decode cX12_stack 82 = .ok (.getfield 9, 3) := by decide +kernel
theorem dX12_stack_85 : decode cX12_stack 85 = .ok (.aload_n 0, 1) := by decide +kernel
theorem dX12_stack_86 : decode cX12_stack 86 = .ok (.getfield 31, 3) := by decide +kernel
theorem dX12_stack_89 : decode cX12_stack 89 = .ok (.iload 4, 2) := by decide +kernel
theorem dX12_stack_91 : decode cX12_stack 91 = .ok (.iconst 1, 1) := by decide +kernel
theorem dX12_stack_92 : decode cX12_stack 92 = .ok (.isub, 1) := by decide +kernel
theorem dX12_stack_93 : decode cX12_stack 93 = .ok (.iaload, 1) := by decide +kernel
theorem dX12_stack_94 : decode cX12_stack 94 = .ok (.iconst 1, 1) := by decide +kernel
theorem dX12_stack_95 : decode cX12_stack 95 = .ok (.invokestatic 114, 3) := by decide +kernel
theorem dX12_stack_98 : decode cX12_stack 98 = .ok (.iaload, 1) := by decide +kernel
theorem dX12_stack_99 : decode cX12_stack 99 = .ok (.aload_n 0, 1) := by decide +kernel
theorem dX12_stack_100 : decode cX12_stack 100 = .ok (.getfield 9, 3) := by decide +kernel
theorem dX12_stack_103 : decode cX12_stack 103 = .ok (.iload_n 3, 1) := by decide +kernel
theorem dX12_stack_104 : decode cX12_stack 104 = .ok (.iconst 1, 1) := by decide +kernel
theorem dX12_stack_105 : decode cX12_stack 105 = .ok (.invokestatic 114, 3) := by decide +kernel
theorem dX12_stack_108 : decode cX12_stack 108 = .ok (.iaload, 1) := by decide +kernel
theorem dX12_stack_109 : decode cX12_stack 109 = .ok (.if_icmp .le 9, 3) := by decide +kernel
theorem dX12_stack_112 : decode cX12_stack 112 = .ok (.iinc 4 (-1), 3) := by decide +kernel
theorem dX12_stack_115 : decode cX12_stack 115 = .ok (.goto (-44), 3) := by decide +kernel
theorem dX12_stack_118 : decode cX12_stack 118 = .ok (.iload 4, 2) := by decide +kernel
theorem dX12_stack_120 : decode cX12_stack 120 = .ok (.aload_n 0, 1) := by decide +kernel
theorem dX12_stack_121 : decode cX12_stack 121 = .ok (.iload_n 2, 1) := by decide +kernel
theorem dX12_stack_122 : decode cX12_stack 122 = .ok (.invokevirtual 174, 3) := by decide +kernel
theorem dX12_stack_125 : decode cX12_stack 125 = .ok (.isub, 1) := by decide +kernel
theorem dX12_stack_126 : decode cX12_stack 126 = .ok (.istore 5, 2) := by decide +kernel
theorem dX12_stack_128 : decode cX12_stack 128 = .ok (.aload_n 0, 1) := by decide +kernel
theorem dX12_stack_129 : decode cX12_stack 129 = .ok (.getfield 132, 3) := by decide +kernel
theorem dX12_stack_132 : decode cX12_stack 132 = .ok (.istore 6, 2) := by decide +kernel
theorem dX12_stack_134 : decode cX12_stack 134 = .ok (.iload 6, 2) := by decide +kernel
theorem dX12_stack_136 : decode cX12_stack 136 = .ok (.iload 4, 2) := by decide +kernel
theorem dX12_stack_138 : decode cX12_stack 138 = .ok (.if_icmp .le 25, 3) := by decide +kernel
theorem dX12_stack_141 : decode cX12_stack 141 = .ok (.aload_n 0, 1) := by decide +kernel
theorem dX12_stack_142 : decode cX12_stack 142 = .ok (.getfield 31, 3) := by decide +kernel
theorem dX12_stack_145 : decode cX12_stack 145 = .ok (.iload 6, 2) := by decide +kernel
theorem dX12_stack_147 : decode cX12_stack 147 = .ok (.aload_n 0, 1) := by decide +kernel
theorem dX12_stack_148 : decode cX12_stack 148 = .ok (.getfield 31, 3) := by decide +kernel
theorem dX12_stack_151 : decode cX12_stack 151 = .ok (.iload 6, 2) := by decide +kernel
theorem dX12_stack_153 : decode cX12_stack 153 = .ok (.iconst 1, 1) := by decide +kernel
theorem dX12_stack_154 : decode cX12_stack 154 = .ok (.isub, 1) := by decide +kernel
theorem dX12_stack_155 : decode cX12_stack 155 = .ok (.iaload, 1) := by decide +kernel
theorem dX12_stack_156 : decode cX12_stack 156 = .ok (.iastore, 1) := by decide +kernel
theorem dX12_stack_157 : decode cX12_stack 157 = .ok (.iinc 6 (-1), 3) := by decide +kernel
theorem dX12_stack_160 : decode cX12_stack 160 = .ok (.goto (-26), 3) := by decide +kernel
theorem dX12_stack_163 : decode cX12_stack 163 = .ok (.aload_n 0, 1) := by decide +kernel
theorem dX12_stack_164 : decode cX12_stack 164 = .ok (.getfield 31, 3) := by decide +kernel
theorem dX12_stack_167 : decode cX12_stack 167 = .ok (.iload 4, 2) := by decide +kernel
theorem dX12_stack_169 : decode cX12_stack 169 = .ok (.iload_n 3, 1) := by decide +kernel
theorem dX12_stack_170 : decode cX12_stack 170 = .ok (.iastore, 1) := by decide +kernel
theorem dX12_stack_171 : decode cX12_stack 171 = .ok (.aload_n 0, 1) := by decide +kernel
theorem dX12_stack_172 : decode cX12_stack 172 = .ok (.iload_n 1, 1) := by decide +kernel
theorem dX12_stack_173 : decode cX12_stack 173 = .ok (.aload_n 0, 1) := by decide +kernel
theorem dX12_stack_174 : decode cX12_stack 174 = .ok (.getfield 31, 3) := by decide +kernel
theorem dX12_stack_177 : decode cX12_stack 177 = .ok (.aload_n 0, 1) := by decide +kernel
theorem dX12_stack_178 : decode cX12_stack 178 = .ok (.getfield 132, 3) := by decide +kernel
theorem dX12_stack_181 : decode cX12_stack 181 = .ok (.iconst 1, 1) := by decide +kernel
theorem dX12_stack_182 : decode cX12_stack 182 = .ok (.iadd, 1) := by decide +kernel
theorem dX12_stack_183 : decode cX12_stack 183 = .ok (.invokevirtual 325, 3) := by decide +kernel
theorem dX12_stack_186 : decode cX12_stack 186 = .ok (.iload 5, 2) := by decide +kernel
theorem dX12_stack_188 : decode cX12_stack 188 = .ok (.ireturn, 1) := by decide +kernel
set_option maxRecDepth 100000 in
theorem t_X12_stack_134 (G : MG) (hG : (g_l G).stackTraces = false) (d : Nat) (hd : 8 ≤ d)    : ∀ (n : Nat) (σ : MsSt) (l0 : Nat) (l1 : Int32) (l3 : Int32) (l4 : Int32) (l5 : Int32) (l6 : Int32) (h0 : ms_kd l0 = 13), TrO G mX12_stack d 0 0 0 0 ms_wi 134 [(0, .ref l0), (1, .int l1), (3, .int l3), (4, .int l4), (5, .int l5), (6, .int l6)] [] σ (f_X12_stack_134 n σ l0 l1 l3 l4 l5 l6) := by
  intro n
  induction n with
  | zero => exact fun _ _ _ _ _ _ _ _ => tr_none
  | succ n ih =>
    intro σ l0 l1 l3 l4 l5 l6 h0
    show TrO G mX12_stack d 0 0 0 0 ms_wi 134 [(0, .ref l0), (1, .int l1), (3, .int l3), (4, .int l4), (5, .int l5), (6, .int l6)] [] σ (if l4 < l6 then (ms_ald σ (ms_rf l0 10) (l6 - 1)).bind fun v9 => (ms_ast σ (ms_rf l0 10) l6 v9).bind fun s10 => (f_X12_stack_134 n) s10 l0 l1 l3 l4 l5 (l6 + (-1)) else (ms_ast σ (ms_rf l0 10) l4 l3).bind fun s7 => (f_X12_write s7 l0 l1 (ms_rf l0 10) ((ms_i s7 l0 11) + 1)).bind fun s8 => some (l5, s8))
    refine tr_iload (i := 5) dX12_stack_134 rfl ?_
    refine tr_iload (i := 3) dX12_stack_136 rfl ?_
    refine tr_icle (o := none) (tgt := 163) dX12_stack_138 (by decide) ?_ ?_
    · refine tr_aload_n (i := 0) dX12_stack_163 rfl ?_
      refine tr_getR 12 h0 fl_X12_31 (by decide +kernel) dX12_stack_164 ?_
      refine tr_iload (i := 3) dX12_stack_167 rfl ?_
      refine tr_iload_n (i := 2) dX12_stack_169 rfl ?_
      refine tr_ast (rk_12_10 h0) dX12_stack_170 (fun s7 => ?_)
      refine tr_aload_n (i := 0) dX12_stack_171 rfl ?_
      refine tr_iload_n (i := 1) dX12_stack_172 rfl ?_
      refine tr_aload_n (i := 0) dX12_stack_173 rfl ?_
      refine tr_getR 12 h0 fl_X12_31 (by decide +kernel) dX12_stack_174 ?_
      refine tr_aload_n (i := 0) dX12_stack_177 rfl ?_
      refine tr_getI 12 h0 fl_X12_132 (by decide +kernel) dX12_stack_178 ?_
      refine tr_iconst (v := 1) dX12_stack_181 (by decide +kernel) ?_
      refine tr_iadd dX12_stack_182 ?_
      refine tr_c_wv (ms_cV (rest := []) (al := [.int l1, .ref (ms_rf l0 10), .int ((ms_i s7 l0 11) + 1)]) 12 (sp_X12_write G hG (d - 1) (by omega) s7 l0 l1 (ms_rf l0 10) ((ms_i s7 l0 11) + 1) h0 (rk_12_10 h0)) h0 (by decide +kernel) kl_X12_325 fv_X12_write dX12_stack_183 (show _ = some 3 by decide +kernel) (by omega) (Nat.le_of_ble_eq_true rfl) (by decide) (by decide)) (fun s8 => ?_)
      refine tr_iload (i := 4) dX12_stack_186 rfl ?_
      exact tr_iret rfl rfl (by decide) (by decide) dX12_stack_188
    · refine tr_aload_n (i := 0) dX12_stack_141 rfl ?_
      refine tr_getR 12 h0 fl_X12_31 (by decide +kernel) dX12_stack_142 ?_
      refine tr_iload (i := 5) dX12_stack_145 rfl ?_
      refine tr_aload_n (i := 0) dX12_stack_147 rfl ?_
      refine tr_getR 12 h0 fl_X12_31 (by decide +kernel) dX12_stack_148 ?_
      refine tr_iload (i := 5) dX12_stack_151 rfl ?_
      refine tr_iconst (v := 1) dX12_stack_153 (by decide +kernel) ?_
      refine tr_isub dX12_stack_154 ?_
      refine tr_ald (rk_12_10 h0) dX12_stack_155 (fun v9 => ?_)
      refine tr_ast (rk_12_10 h0) dX12_stack_156 (fun s10 => ?_)
      refine tr_iinc (k := 5) (v := (l6 + (-1))) (lv' := [(0, .ref l0), (1, .int l1), (3, .int l3), (4, .int l4), (5, .int l5), (6, .int (l6 + (-1)))]) [1, 2, 3, 4, 5, 0] dX12_stack_157 rfl rfl (by decide) rfl ?_
      refine tr_goto (tgt := 134) dX12_stack_160 (by decide) ?_
      exact (fun s y0 y1 y2 y3 y4 y5 g0 => ih s y0 y1 y2 y3 y4 y5 g0) s10 l0 l1 l3 l4 l5 (l6 + (-1)) h0
set_option maxRecDepth 100000 in
theorem t_X12_stack_118 (G : MG) (hG : (g_l G).stackTraces = false) (d : Nat) (hd : 8 ≤ d)    (σ : MsSt) (l0 : Nat) (l1 : Int32) (l2 : Int32) (l3 : Int32) (l4 : Int32) (h0 : ms_kd l0 = 13) : TrO G mX12_stack d 0 0 0 0 ms_wi 118 [(0, .ref l0), (1, .int l1), (2, .int l2), (3, .int l3), (4, .int l4)] [] σ (f_X12_stack_118 σ l0 l1 l2 l3 l4) := by
  show TrO G mX12_stack d 0 0 0 0 ms_wi 118 [(0, .ref l0), (1, .int l1), (2, .int l2), (3, .int l3), (4, .int l4)] [] σ ((f_X12_firstMark σ l0 l2).bind fun v6 => f_X12_stack_134 ms_fuel σ l0 l1 l3 l4 (l4 - v6) (ms_i σ l0 11))
  refine tr_iload (i := 4) dX12_stack_118 rfl ?_
  refine tr_aload_n (i := 0) dX12_stack_120 rfl ?_
  refine tr_iload_n (i := 2) dX12_stack_121 rfl ?_
  refine tr_c_i (ms_cV (rest := [.int l4]) (al := [.int l2]) 12 (sp_X12_firstMark G hG (d - 1) (by omega) σ l0 l2 h0) h0 (by decide +kernel) kl_X12_174 fv_X12_firstMark dX12_stack_122 (show _ = some 1 by decide +kernel) (by omega) (Nat.le_of_ble_eq_true rfl) (by decide) (by decide)) (fun v6 => ?_)
  refine tr_isub dX12_stack_125 ?_
  refine tr_istore (lv' := [(0, .ref l0), (1, .int l1), (3, .int l3), (4, .int l4), (5, .int (l4 - v6))]) [1, 2, 4, 5, 0] dX12_stack_126 (by decide) rfl ?_
  refine tr_aload_n (i := 0) dX12_stack_128 rfl ?_
  refine tr_getI 12 h0 fl_X12_132 (by decide +kernel) dX12_stack_129 ?_
  refine tr_istore (lv' := [(0, .ref l0), (1, .int l1), (3, .int l3), (4, .int l4), (5, .int (l4 - v6)), (6, .int (ms_i σ l0 11))]) [1, 2, 3, 4, 5, 0] dX12_stack_132 (by decide) rfl ?_
  exact t_X12_stack_134 G hG d hd ms_fuel σ l0 l1 l3 l4 (l4 - v6) (ms_i σ l0 11) h0
set_option maxRecDepth 100000 in
theorem t_X12_stack_71 (G : MG) (hG : (g_l G).stackTraces = false) (d : Nat) (hd : 8 ≤ d)    : ∀ (n : Nat) (σ : MsSt) (l0 : Nat) (l1 : Int32) (l2 : Int32) (l3 : Int32) (l4 : Int32) (h0 : ms_kd l0 = 13), TrO G mX12_stack d 0 0 0 0 ms_wi 71 [(0, .ref l0), (1, .int l1), (2, .int l2), (3, .int l3), (4, .int l4)] [] σ (f_X12_stack_71 n σ l0 l1 l2 l3 l4) := by
  intro n
  induction n with
  | zero => exact fun _ _ _ _ _ _ _ => tr_none
  | succ n ih =>
    intro σ l0 l1 l2 l3 l4 h0
    show TrO G mX12_stack d 0 0 0 0 ms_wi 71 [(0, .ref l0), (1, .int l1), (2, .int l2), (3, .int l3), (4, .int l4)] [] σ ((f_X12_firstMark σ l0 l2).bind fun v5 => if v5 < l4 then (ms_ald σ (ms_rf l0 10) (l4 - 1)).bind fun v11 => (f_X12_of σ v11 1).bind fun v12 => (ms_ald σ (ms_rf l0 0) v12).bind fun v13 => (f_X12_of σ l3 1).bind fun v14 => (ms_ald σ (ms_rf l0 0) v14).bind fun v15 => if v15 < v13 then (f_X12_stack_71 n) σ l0 l1 l2 l3 (l4 + (-1)) else f_X12_stack_118 σ l0 l1 l2 l3 l4 else f_X12_stack_118 σ l0 l1 l2 l3 l4)
    refine tr_iload (i := 4) dX12_stack_71 rfl ?_
    refine tr_aload_n (i := 0) dX12_stack_73 rfl ?_
    refine tr_iload_n (i := 2) dX12_stack_74 rfl ?_
    refine tr_c_i (ms_cV (rest := [.int l4]) (al := [.int l2]) 12 (sp_X12_firstMark G hG (d - 1) (by omega) σ l0 l2 h0) h0 (by decide +kernel) kl_X12_174 fv_X12_firstMark dX12_stack_75 (show _ = some 1 by decide +kernel) (by omega) (Nat.le_of_ble_eq_true rfl) (by decide) (by decide)) (fun v5 => ?_)
    refine tr_icle (o := none) (tgt := 118) dX12_stack_78 (by decide) ?_ ?_
    · exact t_X12_stack_118 G hG d hd σ l0 l1 l2 l3 l4 h0
    · refine tr_aload_n (i := 0) dX12_stack_81 rfl ?_
      refine tr_getR 12 h0 fl_X12_9 (by decide +kernel) dX12_stack_82 ?_
      refine tr_aload_n (i := 0) dX12_stack_85 rfl ?_
      refine tr_getR 12 h0 fl_X12_31 (by decide +kernel) dX12_stack_86 ?_
      refine tr_iload (i := 4) dX12_stack_89 rfl ?_
      refine tr_iconst (v := 1) dX12_stack_91 (by decide +kernel) ?_
      refine tr_isub dX12_stack_92 ?_
      refine tr_ald (rk_12_10 h0) dX12_stack_93 (fun v11 => ?_)
      refine tr_iconst (v := 1) dX12_stack_94 (by decide +kernel) ?_
      refine tr_c_i (ms_cS (rest := [.ref (ms_rf l0 0)]) (al := [.int v11, .int 1]) (sp_X12_of G hG (d - 1) (by omega) σ v11 1) kl_X12_114 fs_X12_of dX12_stack_95 (show _ = some 2 by decide +kernel) (by omega) (Nat.le_of_ble_eq_true rfl) (by decide) (by decide)) (fun v12 => ?_)
      refine tr_ald (rk_12_0 h0) dX12_stack_98 (fun v13 => ?_)
      refine tr_aload_n (i := 0) dX12_stack_99 rfl ?_
      refine tr_getR 12 h0 fl_X12_9 (by decide +kernel) dX12_stack_100 ?_
      refine tr_iload_n (i := 3) dX12_stack_103 rfl ?_
      refine tr_iconst (v := 1) dX12_stack_104 (by decide +kernel) ?_
      refine tr_c_i (ms_cS (rest := [.ref (ms_rf l0 0), .int v13]) (al := [.int l3, .int 1]) (sp_X12_of G hG (d - 1) (by omega) σ l3 1) kl_X12_114 fs_X12_of dX12_stack_105 (show _ = some 2 by decide +kernel) (by omega) (Nat.le_of_ble_eq_true rfl) (by decide) (by decide)) (fun v14 => ?_)
      refine tr_ald (rk_12_0 h0) dX12_stack_108 (fun v15 => ?_)
      refine tr_icle (o := none) (tgt := 118) dX12_stack_109 (by decide) ?_ ?_
      · exact t_X12_stack_118 G hG d hd σ l0 l1 l2 l3 l4 h0
      · refine tr_iinc (k := 4) (v := (l4 + (-1))) (lv' := [(0, .ref l0), (1, .int l1), (2, .int l2), (3, .int l3), (4, .int (l4 + (-1)))]) [1, 2, 3, 4, 0] dX12_stack_112 rfl rfl (by decide) rfl ?_
        refine tr_goto (tgt := 71) dX12_stack_115 (by decide) ?_
        exact (fun s y0 y1 y2 y3 y4 g0 => ih s y0 y1 y2 y3 y4 g0) σ l0 l1 l2 l3 (l4 + (-1)) h0
set_option maxRecDepth 100000 in
theorem t_X12_stack_35 (G : MG) (hG : (g_l G).stackTraces = false) (d : Nat) (hd : 8 ≤ d)    (σ : MsSt) (l0 : Nat) (l1 : Int32) (l2 : Int32) (l3 : Int32) (t0 : Int32) (t1 : Nat) (h0 : ms_kd l0 = 13) (ht1 : ms_kd t1 = 13) : TrO G mX12_stack d 0 0 0 0 ms_wi 35 [(0, .ref l0), (1, .int l1), (2, .int l2), (3, .int l3)] [.int t0, .ref t1] σ (f_X12_stack_35 σ l0 l1 l2 l3 t0 t1) := by
  show TrO G mX12_stack d 0 0 0 0 ms_wi 35 [(0, .ref l0), (1, .int l1), (2, .int l2), (3, .int l3)] [.int t0, .ref t1] σ (ms_nm (ms_si σ t1 7 t0) fun s3 => if (ms_i s3 l0 7) = 0 then if 60 < ((ms_i s3 l0 11) + 1) then some ((-2), s3) else (ms_ald s3 (ms_rf l0 16) (l2 + 1)).bind fun v4 => f_X12_stack_71 ms_fuel s3 l0 l1 l2 l3 v4 else some (0, s3))
  refine tr_putI 12 ht1 fl_X12_107 (by decide +kernel) dX12_stack_35 ?_
  refine ms_ltS (fun s3 => ?_)
  refine tr_aload_n (i := 0) dX12_stack_38 rfl ?_
  refine tr_getI 12 h0 fl_X12_107 (by decide +kernel) dX12_stack_39 ?_
  refine tr_ifeq (o := none) (tgt := 47) dX12_stack_42 (by decide) ?_ ?_
  · refine tr_aload_n (i := 0) dX12_stack_47 rfl ?_
    refine tr_getI 12 h0 fl_X12_132 (by decide +kernel) dX12_stack_48 ?_
    refine tr_iconst (v := 1) dX12_stack_51 (by decide +kernel) ?_
    refine tr_iadd dX12_stack_52 ?_
    refine tr_bipush (v := 60) dX12_stack_53 (by decide +kernel) ?_
    refine tr_icle (o := none) (tgt := 61) dX12_stack_55 (by decide) ?_ ?_
    · refine tr_aload_n (i := 0) dX12_stack_61 rfl ?_
      refine tr_getR 12 h0 fl_X12_40 (by decide +kernel) dX12_stack_62 ?_
      refine tr_iload_n (i := 2) dX12_stack_65 rfl ?_
      refine tr_iconst (v := 1) dX12_stack_66 (by decide +kernel) ?_
      refine tr_iadd dX12_stack_67 ?_
      refine tr_ald (rk_12_16 h0) dX12_stack_68 (fun v4 => ?_)
      refine tr_istore (lv' := [(0, .ref l0), (1, .int l1), (2, .int l2), (3, .int l3), (4, .int v4)]) [1, 2, 3, 4, 0] dX12_stack_69 (by decide) rfl ?_
      exact t_X12_stack_71 G hG d hd ms_fuel s3 l0 l1 l2 l3 v4 h0
    · refine tr_bipush (v := (-2)) dX12_stack_58 (by decide +kernel) ?_
      exact tr_iret rfl rfl (by decide) (by decide) dX12_stack_60
  · refine tr_iconst (v := 0) dX12_stack_45 (by decide +kernel) ?_
    exact tr_iret rfl rfl (by decide) (by decide) dX12_stack_46
set_option maxRecDepth 100000 in
theorem t_X12_stack_18 (G : MG) (hG : (g_l G).stackTraces = false) (d : Nat) (hd : 8 ≤ d)    (σ : MsSt) (l0 : Nat) (l1 : Int32) (l2 : Int32) (l3 : Int32) (t0 : Nat) (h0 : ms_kd l0 = 13) (ht0 : ms_kd t0 = 13) : TrO G mX12_stack d 0 0 0 0 ms_wi 18 [(0, .ref l0), (1, .int l1), (2, .int l2), (3, .int l3)] [.ref t0] σ (f_X12_stack_18 σ l0 l1 l2 l3 t0) := by
  show TrO G mX12_stack d 0 0 0 0 ms_wi 18 [(0, .ref l0), (1, .int l1), (2, .int l2), (3, .int l3)] [.ref t0] σ (f_X12_stack_35 σ l0 l1 l2 l3 1 t0)
  refine tr_iconst (v := 1) dX12_stack_18 (by decide +kernel) ?_
  refine tr_goto (tgt := 35) dX12_stack_19 (by decide) ?_
  exact t_X12_stack_35 G hG d hd σ l0 l1 l2 l3 1 t0 h0 ht0
set_option maxRecDepth 100000 in
theorem sp_X12_stack (G : MG) (hG : (g_l G).stackTraces = false) (d : Nat) (hd : 8 ≤ d)   (σ : MsSt) (l0 : Nat) (l1 : Int32) (l2 : Int32) (l3 : Int32) (h0 : ms_kd l0 = 13) : MsSpec G mX12_stack d 0 0 [.ref l0, .int l1, .int l2, .int l3] σ ms_wi (f_X12_stack σ l0 l1 l2 l3) := by
  refine ms_start (by decide +kernel) rfl rfl (Nat.le_of_ble_eq_true rfl) ?_
  show TrO G mX12_stack d 0 0 0 0 ms_wi 0 [(0, .ref l0), (1, .int l1), (2, .int l2), (3, .int l3)] [] σ (ms_b2 (f_X12_isCluster σ l0 l1 l2) fun v1 s2 => if v1 = 0 then f_X12_stack_18 s2 l0 l1 l2 l3 l0 else (f_X12_isSign s2 l0 l3).bind fun v16 => if v16 = 0 then f_X12_stack_18 s2 l0 l1 l2 l3 l0 else (f_X12_isMark s2 l0 l3).bind fun v17 => if v17 = 0 then f_X12_stack_35 s2 l0 l1 l2 l3 2 l0 else f_X12_stack_35 s2 l0 l1 l2 l3 0 l0)
  refine tr_aload_n (i := 0) dX12_stack_0 rfl ?_
  refine tr_aload_n (i := 0) dX12_stack_1 rfl ?_
  refine tr_iload_n (i := 1) dX12_stack_2 rfl ?_
  refine tr_iload_n (i := 2) dX12_stack_3 rfl ?_
  refine tr_d_wi (ms_cV (rest := [.ref l0]) (al := [.int l1, .int l2]) 12 (sp_X12_isCluster G hG (d - 1) (by omega) σ l0 l1 l2 h0) h0 (by decide +kernel) kl_X12_183 fv_X12_isCluster dX12_stack_4 (show _ = some 2 by decide +kernel) (by omega) (Nat.le_of_ble_eq_true rfl) (by decide) (by decide)) (fun v1 s2 => ?_)
  refine tr_ifeq (o := none) (tgt := 18) dX12_stack_7 (by decide) ?_ ?_
  · exact t_X12_stack_18 G hG d hd s2 l0 l1 l2 l3 l0 h0 h0
  · refine tr_aload_n (i := 0) dX12_stack_10 rfl ?_
    refine tr_iload_n (i := 3) dX12_stack_11 rfl ?_
    refine tr_c_i (ms_cV (rest := [.ref l0]) (al := [.int l3]) 12 (sp_X12_isSign G hG (d - 1) (by omega) s2 l0 l3 h0) h0 (by decide +kernel) kl_X12_122 fv_X12_isSign dX12_stack_12 (show _ = some 1 by decide +kernel) (by omega) (Nat.le_of_ble_eq_true rfl) (by decide) (by decide)) (fun v16 => ?_)
    refine tr_ifne (o := none) (tgt := 22) dX12_stack_15 (by decide) ?_ ?_
    · refine tr_aload_n (i := 0) dX12_stack_22 rfl ?_
      refine tr_iload_n (i := 3) dX12_stack_23 rfl ?_
      refine tr_c_i (ms_cV (rest := [.ref l0]) (al := [.int l3]) 12 (sp_X12_isMark G hG (d - 1) (by omega) s2 l0 l3 h0) h0 (by decide +kernel) kl_X12_135 fv_X12_isMark dX12_stack_24 (show _ = some 1 by decide +kernel) (by omega) (Nat.le_of_ble_eq_true rfl) (by decide) (by decide)) (fun v17 => ?_)
      refine tr_ifeq (o := none) (tgt := 34) dX12_stack_27 (by decide) ?_ ?_
      · refine tr_iconst (v := 2) dX12_stack_34 (by decide +kernel) ?_
        exact t_X12_stack_35 G hG d hd s2 l0 l1 l2 l3 2 l0 h0 h0
      · refine tr_iconst (v := 0) dX12_stack_30 (by decide +kernel) ?_
        refine tr_goto (tgt := 35) dX12_stack_31 (by decide) ?_
        exact t_X12_stack_35 G hG d hd s2 l0 l1 l2 l3 0 l0 h0 h0
    · exact t_X12_stack_18 G hG d hd s2 l0 l1 l2 l3 l0 h0 h0
theorem dX12_strip_0 : decode cX12_strip 0 = .ok (.aload_n 0, 1) := by decide +kernel
theorem dX12_strip_1 : decode cX12_strip 1 = .ok (.aload_n 0, 1) := by decide +kernel
theorem dX12_strip_2 : decode cX12_strip 2 = .ok (.iload_n 1, 1) := by decide +kernel
theorem dX12_strip_3 : decode cX12_strip 3 = .ok (.iload_n 2, 1) := by decide +kernel
theorem dX12_strip_4 : decode cX12_strip 4 = .ok (.invokevirtual 183, 3) := by decide +kernel
theorem dX12_strip_7 : decode cX12_strip 7 = .ok (.ifCond .ne 7, 3) := by decide +kernel
theorem dX12_strip_10 : decode cX12_strip 10 = .ok (.iconst 1, 1) := by decide +kernel
theorem dX12_strip_11 : decode cX12_strip 11 = .ok (.goto 20, 3) := by decide +kernel
theorem dX12_strip_14 : decode cX12_strip 14 = .ok (.iload_n 3, 1) := by decide +kernel
theorem dX12_strip_15 : decode cX12_strip 15 = .ok (.i2l, 1) := by decide +kernel
theorem dX12_strip_16 : decode cX12_strip 16 = .ok (.lconst 0, 1) := by decide +kernel
theorem dX12_strip_17 : decode cX12_strip 17 = .ok (.ldc2_w 329, 3) := by decide +kernel
theorem dX12_strip_20 : decode cX12_strip 20 = .ok (.invokestatic 110, 3) := by decide +kernel
theorem dX12_strip_23 : decode cX12_strip 23 = .ok (.ifCond .eq 7, 3) := by decide +kernel
theorem dX12_strip_26 : decode cX12_strip 26 = .ok (.iconst 0, 1) := by decide +kernel
theorem dX12_strip_27 : decode cX12_strip 27 = .ok (.goto 4, 3) := by decide +kernel
theorem dX12_strip_30 : decode cX12_strip 30 = .ok (.iconst 2, 1) := by decide +kernel
theorem dX12_strip_31 : decode cX12_strip 31 = .ok (.putfield 107, 3) := by decide +kernel
theorem dX12_strip_34 : decode cX12_strip 34 = .ok (.aload_n 0, 1) := by decide +kernel
theorem dX12_strip_35 : decode cX12_strip 35 = .ok (.getfield 107, 3) := by decide +kernel
theorem dX12_strip_38 : decode cX12_strip 38 = .ok (.ifCond .eq 5, 3) := by decide +kernel
theorem dX12_strip_41 : decode cX12_strip 41 = .ok (.iconst 0, 1) := by decide +kernel
theorem dX12_strip_42 : decode cX12_strip 42 = .ok (.ireturn, 1) := by decide +kernel
theorem dX12_strip_43 : decode cX12_strip 43 = .ok (.iconst 0, 1) := by decide +kernel
theorem dX12_strip_44 : decode cX12_strip 44 = .ok (.istore 4, 2) := by decide +kernel
theorem dX12_strip_46 : decode cX12_strip 46 = .ok (.iconst 0, 1) := by decide +kernel
theorem dX12_strip_47 : decode cX12_strip 47 = .ok (.istore 5, 2) := by decide +kernel
theorem dX12_strip_49 : decode cX12_strip 49 = .ok (.iload 5, 2) := by decide +kernel
theorem dX12_strip_51 : decode cX12_strip 51 = .ok (.aload_n 0, 1) := by decide +kernel
theorem dX12_strip_52 : decode cX12_strip 52 = .ok (.getfield 132, 3) := by decide +kernel
theorem dX12_strip_55 : decode cX12_strip 55 = .ok (.if_icmp .ge 106, 3) := by decide +kernel
theorem dX12_strip_58 : decode cX12_strip 58 = .ok (.iload 5, 2) := by decide +kernel
theorem dX12_strip_60 : decode cX12_strip 60 = .ok (.aload_n 0, 1) := by decide +kernel
theorem dX12_strip_61 : decode cX12_strip 61 = .ok (.iload_n 2, 1) := by decide +kernel
theorem dX12_strip_62 : decode cX12_strip 62 = .ok (.invokevirtual 174, 3) := by decide +kernel
theorem dX12_strip_65 : decode cX12_strip 65 = .ok (.if_icmp .lt 20, 3) := by decide +kernel
theorem dX12_strip_68 : decode cX12_strip 68 = .ok (.iload 5, 2) := by decide +kernel
theorem dX12_strip_70 : decode cX12_strip 70 = .ok (.aload_n 0, 1) := by decide +kernel
theorem dX12_strip_71 : decode cX12_strip 71 = .ok (.getfield 40, 3) := by decide +kernel
theorem dX12_strip_74 : decode cX12_strip 74 = .ok (.iload_n 2, 1) := by decide +kernel
theorem dX12_strip_75 : decode cX12_strip 75 = .ok (.iconst 1, 1) := by decide +kernel
theorem dX12_strip_76 : decode cX12_strip 76 = .ok (.iadd, 1) := by decide +kernel
theorem dX12_strip_77 : decode cX12_strip 77 = .ok (.iaload, 1) := by decide +kernel
theorem dX12_strip_78 : decode cX12_strip 78 = .ok (.if_icmp .ge 7, 3) := by decide +kernel
theorem dX12_strip_81 : decode cX12_strip 81 = .ok (.iconst 1, 1) := by decide +kernel
theorem dX12_strip_82 : decode cX12_strip 82 = .ok (.goto 4, 3) := by decide +kernel
theorem dX12_strip_85 : decode cX12_strip 85 = .ok (.iconst 0, 1) := by decide +kernel
theorem dX12_strip_86 : decode cX12_strip 86 = .ok (.istore 6, 2) := by decide +kernel
theorem dX12_strip_88 : decode cX12_strip 88 = .ok (.iload 6, 2) := by decide +kernel
theorem dX12_strip_90 : decode cX12_strip 90 = .ok (.ifCond .eq 33, 3) := by decide +kernel
theorem dX12_strip_93 : decode cX12_strip 93 = .ok (.iload_n 3, 1) := by decide +kernel
theorem dX12_strip_94 : decode cX12_strip 94 = .ok (.iconst 3, 1) := by decide +kernel
theorem dX12_strip_95 : decode cX12_strip 95 = .ok (.if_icmp .eq 24, 3) := by decide +kernel
theorem dX12_strip_98 : decode cX12_strip 98 = .ok (.aload_n 0, 1) := by decide +kernel
theorem dX12_strip_99 : decode cX12_strip 99 = .ok (.getfield 9, 3) := by decide +kernel
theorem dX12_strip_102 : decode cX12_strip 102 = .ok (.aload_n 0, 1) := by decide +kernel
theorem dX12_strip_103 : decode cX12_strip 103 = .ok (.getfield 31, 3) := by decide +kernel
theorem dX12_strip_106 : decode cX12_strip 106 = .ok (.iload 5, 2) := by decide +kernel
theorem dX12_strip_108 : decode cX12_strip 108 = .ok (.iaload, 1) := by decide +kernel
theorem dX12_strip_109 : decode cX12_strip 109 = .ok (.bipush 6, 2) := by decide +kernel
theorem dX12_strip_111 : decode cX12_strip 111 = .ok (.invokestatic 114, 3) := by decide +kernel
theorem dX12_strip_114 : decode cX12_strip 114 = .ok (.iaload, 1) := by decide +kernel
theorem dX12_strip_115 : decode cX12_strip 115 = .ok (.iload_n 3, 1) := by decide +kernel
theorem dX12_strip_116 : decode cX12_strip 116 = .ok (.if_icmp .ne 7, 3) := by decide +kernel
theorem dX12_strip_119 : decode cX12_strip 119 = .ok (.iconst 1, 1) := by decide +kernel
theorem dX12_strip_120 : decode cX12_strip 120 = .ok (.goto 4, 3) := by decide +kernel
theorem dX12_strip_123 : decode cX12_strip 123 = .ok (.iconst 0, 1) := by decide +kernel
theorem dX12_strip_124 : decode cX12_strip 124 = .ok (.istore 7, 2) := by decide +kernel
theorem dX12_strip_126 : decode cX12_strip 126 = .ok (.aload_n 0, 1) := by decide +kernel
theorem dX12_strip_127 : decode cX12_strip 127 = .ok (.getfield 53, 3) := by decide +kernel
theorem dX12_strip_130 : decode cX12_strip 130 = .ok (.iload 4, 2) := by decide +kernel
theorem dX12_strip_132 : decode cX12_strip 132 = .ok (.aload_n 0, 1) := by decide +kernel
theorem dX12_strip_133 : decode cX12_strip 133 = .ok (.getfield 31, 3) := by decide +kernel
theorem dX12_strip_136 : decode cX12_strip 136 = .ok (.iload 5, 2) := by decide +kernel
theorem dX12_strip_138 : decode cX12_strip 138 = .ok (.iaload, 1) := by decide +kernel
theorem dX12_strip_139 : decode cX12_strip 139 = .ok (.iastore, 1) := by decide +kernel
theorem dX12_strip_140 : decode cX12_strip 140 = .ok (.iload 4, 2) := by decide +kernel
theorem dX12_strip_142 : decode cX12_strip 142 = .ok (.iload 7, 2) := by decide +kernel
theorem dX12_strip_144 : decode cX12_strip 144 = .ok (.ifCond .eq 7, 3) := by decide +kernel
theorem dX12_strip_147 : decode cX12_strip 147 = .ok (.iconst 0, 1) := by decide +kernel
theorem dX12_strip_148 : decode cX12_strip 148 = .ok (.goto 4, 3) := by decide +kernel
theorem dX12_strip_151 : decode cX12_strip 151 = .ok (.iconst 1, 1) := by decide +kernel
theorem dX12_strip_152 : decode cX12_strip 152 = .ok (.iadd, 1) := by decide +kernel
theorem dX12_strip_153 : decode cX12_strip 153 = .ok (.istore 4, 2) := by decide +kernel
theorem dX12_strip_155 : decode cX12_strip 155 = .ok (.iinc 5 1, 3) := by decide +kernel
theorem dX12_strip_158 : decode cX12_strip 158 = .ok (.goto (-109), 3) := by decide +kernel
theorem dX12_strip_161 : decode cX12_strip 161 = .ok (.iload 4, 2) := by decide +kernel
theorem dX12_strip_163 : decode cX12_strip 163 = .ok (.bipush 60, 2) := by decide +kernel
theorem dX12_strip_165 : decode cX12_strip 165 = .ok (.if_icmp .le 6, 3) := by decide +kernel
theorem dX12_strip_168 : decode cX12_strip 168 = .ok (.bipush (-2), 2) := by decide +kernel
theorem dX12_strip_170 : decode cX12_strip 170 = .ok (.ireturn, 1) := by decide +kernel
theorem dX12_strip_171 : decode cX12_strip 171 = .ok (.aload_n 0, 1) := by decide +kernel
theorem dX12_strip_172 : decode cX12_strip 172 = .ok (.iload_n 1, 1) := by decide +kernel
theorem dX12_strip_173 : decode cX12_strip 173 = .ok (.aload_n 0, 1) := by decide +kernel
theorem dX12_strip_174 : decode cX12_strip 174 = .ok (.getfield 53, 3) := by decide +kernel
theorem dX12_strip_177 : decode cX12_strip 177 = .ok (.iload 4, 2) := by decide +kernel
theorem dX12_strip_179 : decode cX12_strip 179 = .ok (.invokevirtual 325, 3) := by decide +kernel
theorem dX12_strip_182 : decode cX12_strip 182 = .ok (.aload_n 0, 1) := by decide +kernel
theorem dX12_strip_183 : decode cX12_strip 183 = .ok (.getfield 132, 3) := by decide +kernel
theorem dX12_strip_186 : decode cX12_strip 186 = .ok (.iload 4, 2) := by decide +kernel
theorem dX12_strip_188 : decode cX12_strip 188 = .ok (.isub, 1) := by decide +kernel
theorem dX12_strip_189 : decode cX12_strip 189 = .ok (.ireturn, 1) := by decide +kernel
set_option maxRecDepth 100000 in
theorem t_X12_strip_124 (G : MG) (hG : (g_l G).stackTraces = false) (d : Nat) (hd : 8 ≤ d)   (k49 : MsSt → Nat → Int32 → Int32 → Int32 → Int32 → Int32 → Option (Int32 × MsSt)) (hk49 : ∀ (s : MsSt) (x1 : Nat) (x2 : Int32) (x3 : Int32) (x4 : Int32) (x5 : Int32) (x6 : Int32), ms_kd x1 = 13 → TrO G mX12_strip d 0 0 0 0 ms_wi 49 [(0, .ref x1), (1, .int x2), (2, .int x3), (3, .int x4), (4, .int x5), (5, .int x6)] [] s (k49 s x1 x2 x3 x4 x5 x6)) (σ : MsSt) (l0 : Nat) (l1 : Int32) (l2 : Int32) (l3 : Int32) (l4 : Int32) (l5 : Int32) (t0 : Int32) (h0 : ms_kd l0 = 13) : TrO G mX12_strip d 0 0 0 0 ms_wi 124 [(0, .ref l0), (1, .int l1), (2, .int l2), (3, .int l3), (4, .int l4), (5, .int l5)] [.int t0] σ (f_X12_strip_124 k49 σ l0 l1 l2 l3 l4 l5 t0) := by
  show TrO G mX12_strip d 0 0 0 0 ms_wi 124 [(0, .ref l0), (1, .int l1), (2, .int l2), (3, .int l3), (4, .int l4), (5, .int l5)] [.int t0] σ ((ms_ald σ (ms_rf l0 10) l5).bind fun v7 => (ms_ast σ (ms_rf l0 20) l4 v7).bind fun s8 => if t0 = 0 then k49 s8 l0 l1 l2 l3 (l4 + 1) (l5 + 1) else k49 s8 l0 l1 l2 l3 (l4 + 0) (l5 + 1))
  refine tr_istore (lv' := [(0, .ref l0), (1, .int l1), (2, .int l2), (3, .int l3), (4, .int l4), (5, .int l5), (7, .int t0)]) [1, 2, 3, 4, 5, 6, 0] dX12_strip_124 (by decide) rfl ?_
  refine tr_aload_n (i := 0) dX12_strip_126 rfl ?_
  refine tr_getR 12 h0 fl_X12_53 (by decide +kernel) dX12_strip_127 ?_
  refine tr_iload (i := 4) dX12_strip_130 rfl ?_
  refine tr_aload_n (i := 0) dX12_strip_132 rfl ?_
  refine tr_getR 12 h0 fl_X12_31 (by decide +kernel) dX12_strip_133 ?_
  refine tr_iload (i := 5) dX12_strip_136 rfl ?_
  refine tr_ald (rk_12_10 h0) dX12_strip_138 (fun v7 => ?_)
  refine tr_ast (rk_12_20 h0) dX12_strip_139 (fun s8 => ?_)
  refine tr_iload (i := 4) dX12_strip_140 rfl ?_
  refine tr_iload (i := 6) dX12_strip_142 rfl ?_
  refine tr_ifeq (o := none) (tgt := 151) dX12_strip_144 (by decide) ?_ ?_
  · refine tr_iconst (v := 1) dX12_strip_151 (by decide +kernel) ?_
    refine tr_iadd dX12_strip_152 ?_
    refine tr_istore (lv' := [(0, .ref l0), (1, .int l1), (2, .int l2), (3, .int l3), (4, .int (l4 + 1)), (5, .int l5)]) [1, 2, 3, 4, 0, 5] dX12_strip_153 (by decide) rfl ?_
    refine tr_iinc (k := 5) (v := (l5 + 1)) (lv' := [(0, .ref l0), (1, .int l1), (2, .int l2), (3, .int l3), (4, .int (l4 + 1)), (5, .int (l5 + 1))]) [1, 2, 3, 4, 5, 0] dX12_strip_155 rfl rfl (by decide) rfl ?_
    refine tr_goto (tgt := 49) dX12_strip_158 (by decide) ?_
    exact hk49 s8 l0 l1 l2 l3 (l4 + 1) (l5 + 1) h0
  · refine tr_iconst (v := 0) dX12_strip_147 (by decide +kernel) ?_
    refine tr_goto (tgt := 152) dX12_strip_148 (by decide) ?_
    refine tr_iadd dX12_strip_152 ?_
    refine tr_istore (lv' := [(0, .ref l0), (1, .int l1), (2, .int l2), (3, .int l3), (4, .int (l4 + 0)), (5, .int l5)]) [1, 2, 3, 4, 0, 5] dX12_strip_153 (by decide) rfl ?_
    refine tr_iinc (k := 5) (v := (l5 + 1)) (lv' := [(0, .ref l0), (1, .int l1), (2, .int l2), (3, .int l3), (4, .int (l4 + 0)), (5, .int (l5 + 1))]) [1, 2, 3, 4, 5, 0] dX12_strip_155 rfl rfl (by decide) rfl ?_
    refine tr_goto (tgt := 49) dX12_strip_158 (by decide) ?_
    exact hk49 s8 l0 l1 l2 l3 (l4 + 0) (l5 + 1) h0
set_option maxRecDepth 100000 in
theorem t_X12_strip_123 (G : MG) (hG : (g_l G).stackTraces = false) (d : Nat) (hd : 8 ≤ d)   (k49 : MsSt → Nat → Int32 → Int32 → Int32 → Int32 → Int32 → Option (Int32 × MsSt)) (hk49 : ∀ (s : MsSt) (x1 : Nat) (x2 : Int32) (x3 : Int32) (x4 : Int32) (x5 : Int32) (x6 : Int32), ms_kd x1 = 13 → TrO G mX12_strip d 0 0 0 0 ms_wi 49 [(0, .ref x1), (1, .int x2), (2, .int x3), (3, .int x4), (4, .int x5), (5, .int x6)] [] s (k49 s x1 x2 x3 x4 x5 x6)) (σ : MsSt) (l0 : Nat) (l1 : Int32) (l2 : Int32) (l3 : Int32) (l4 : Int32) (l5 : Int32) (h0 : ms_kd l0 = 13) : TrO G mX12_strip d 0 0 0 0 ms_wi 123 [(0, .ref l0), (1, .int l1), (2, .int l2), (3, .int l3), (4, .int l4), (5, .int l5)] [] σ (f_X12_strip_123 k49 σ l0 l1 l2 l3 l4 l5) := by
  show TrO G mX12_strip d 0 0 0 0 ms_wi 123 [(0, .ref l0), (1, .int l1), (2, .int l2), (3, .int l3), (4, .int l4), (5, .int l5)] [] σ (f_X12_strip_124 k49 σ l0 l1 l2 l3 l4 l5 0)
  refine tr_iconst (v := 0) dX12_strip_123 (by decide +kernel) ?_
  exact t_X12_strip_124 G hG d hd k49 hk49 σ l0 l1 l2 l3 l4 l5 0 h0
set_option maxRecDepth 100000 in
theorem t_X12_strip_119 (G : MG) (hG : (g_l G).stackTraces = false) (d : Nat) (hd : 8 ≤ d)   (k49 : MsSt → Nat → Int32 → Int32 → Int32 → Int32 → Int32 → Option (Int32 × MsSt)) (hk49 : ∀ (s : MsSt) (x1 : Nat) (x2 : Int32) (x3 : Int32) (x4 : Int32) (x5 : Int32) (x6 : Int32), ms_kd x1 = 13 → TrO G mX12_strip d 0 0 0 0 ms_wi 49 [(0, .ref x1), (1, .int x2), (2, .int x3), (3, .int x4), (4, .int x5), (5, .int x6)] [] s (k49 s x1 x2 x3 x4 x5 x6)) (σ : MsSt) (l0 : Nat) (l1 : Int32) (l2 : Int32) (l3 : Int32) (l4 : Int32) (l5 : Int32) (h0 : ms_kd l0 = 13) : TrO G mX12_strip d 0 0 0 0 ms_wi 119 [(0, .ref l0), (1, .int l1), (2, .int l2), (3, .int l3), (4, .int l4), (5, .int l5)] [] σ (f_X12_strip_119 k49 σ l0 l1 l2 l3 l4 l5) := by
  show TrO G mX12_strip d 0 0 0 0 ms_wi 119 [(0, .ref l0), (1, .int l1), (2, .int l2), (3, .int l3), (4, .int l4), (5, .int l5)] [] σ (f_X12_strip_124 k49 σ l0 l1 l2 l3 l4 l5 1)
  refine tr_iconst (v := 1) dX12_strip_119 (by decide +kernel) ?_
  refine tr_goto (tgt := 124) dX12_strip_120 (by decide) ?_
  exact t_X12_strip_124 G hG d hd k49 hk49 σ l0 l1 l2 l3 l4 l5 1 h0
set_option maxRecDepth 100000 in
theorem t_X12_strip_86 (G : MG) (hG : (g_l G).stackTraces = false) (d : Nat) (hd : 8 ≤ d)   (k49 : MsSt → Nat → Int32 → Int32 → Int32 → Int32 → Int32 → Option (Int32 × MsSt)) (hk49 : ∀ (s : MsSt) (x1 : Nat) (x2 : Int32) (x3 : Int32) (x4 : Int32) (x5 : Int32) (x6 : Int32), ms_kd x1 = 13 → TrO G mX12_strip d 0 0 0 0 ms_wi 49 [(0, .ref x1), (1, .int x2), (2, .int x3), (3, .int x4), (4, .int x5), (5, .int x6)] [] s (k49 s x1 x2 x3 x4 x5 x6)) (σ : MsSt) (l0 : Nat) (l1 : Int32) (l2 : Int32) (l3 : Int32) (l4 : Int32) (l5 : Int32) (t0 : Int32) (h0 : ms_kd l0 = 13) : TrO G mX12_strip d 0 0 0 0 ms_wi 86 [(0, .ref l0), (1, .int l1), (2, .int l2), (3, .int l3), (4, .int l4), (5, .int l5)] [.int t0] σ (f_X12_strip_86 k49 σ l0 l1 l2 l3 l4 l5 t0) := by
  show TrO G mX12_strip d 0 0 0 0 ms_wi 86 [(0, .ref l0), (1, .int l1), (2, .int l2), (3, .int l3), (4, .int l4), (5, .int l5)] [.int t0] σ (if t0 = 0 then f_X12_strip_123 k49 σ l0 l1 l2 l3 l4 l5 else if l3 = 3 then f_X12_strip_119 k49 σ l0 l1 l2 l3 l4 l5 else (ms_ald σ (ms_rf l0 10) l5).bind fun v9 => (f_X12_of σ v9 6).bind fun v10 => (ms_ald σ (ms_rf l0 0) v10).bind fun v11 => if v11 = l3 then f_X12_strip_119 k49 σ l0 l1 l2 l3 l4 l5 else f_X12_strip_123 k49 σ l0 l1 l2 l3 l4 l5)
  refine tr_istore (lv' := [(0, .ref l0), (1, .int l1), (2, .int l2), (3, .int l3), (4, .int l4), (5, .int l5), (6, .int t0)]) [1, 2, 3, 4, 5, 6, 0] dX12_strip_86 (by decide) rfl ?_
  refine tr_iload (i := 6) dX12_strip_88 rfl ?_
  refine tr_ifeq (o := none) (tgt := 123) dX12_strip_90 (by decide) ?_ ?_
  · refine tr_weak [0, 1, 2, 3, 4, 5] (lv' := [(0, .ref l0), (1, .int l1), (2, .int l2), (3, .int l3), (4, .int l4), (5, .int l5)]) rfl ?_
    exact t_X12_strip_123 G hG d hd k49 hk49 σ l0 l1 l2 l3 l4 l5 h0
  · refine tr_iload_n (i := 3) dX12_strip_93 rfl ?_
    refine tr_iconst (v := 3) dX12_strip_94 (by decide +kernel) ?_
    refine tr_iceq (o := none) (tgt := 119) dX12_strip_95 (by decide) ?_ ?_
    · refine tr_weak [0, 1, 2, 3, 4, 5] (lv' := [(0, .ref l0), (1, .int l1), (2, .int l2), (3, .int l3), (4, .int l4), (5, .int l5)]) rfl ?_
      exact t_X12_strip_119 G hG d hd k49 hk49 σ l0 l1 l2 l3 l4 l5 h0
    · refine tr_aload_n (i := 0) dX12_strip_98 rfl ?_
      refine tr_getR 12 h0 fl_X12_9 (by decide +kernel) dX12_strip_99 ?_
      refine tr_aload_n (i := 0) dX12_strip_102 rfl ?_
      refine tr_getR 12 h0 fl_X12_31 (by decide +kernel) dX12_strip_103 ?_
      refine tr_iload (i := 5) dX12_strip_106 rfl ?_
      refine tr_ald (rk_12_10 h0) dX12_strip_108 (fun v9 => ?_)
      refine tr_bipush (v := 6) dX12_strip_109 (by decide +kernel) ?_
      refine tr_c_i (ms_cS (rest := [.ref (ms_rf l0 0)]) (al := [.int v9, .int 6]) (sp_X12_of G hG (d - 1) (by omega) σ v9 6) kl_X12_114 fs_X12_of dX12_strip_111 (show _ = some 2 by decide +kernel) (by omega) (Nat.le_of_ble_eq_true rfl) (by decide) (by decide)) (fun v10 => ?_)
      refine tr_ald (rk_12_0 h0) dX12_strip_114 (fun v11 => ?_)
      refine tr_iload_n (i := 3) dX12_strip_115 rfl ?_
      refine tr_icne (o := none) (tgt := 123) dX12_strip_116 (by decide) ?_ ?_
      · refine tr_weak [0, 1, 2, 3, 4, 5] (lv' := [(0, .ref l0), (1, .int l1), (2, .int l2), (3, .int l3), (4, .int l4), (5, .int l5)]) rfl ?_
        exact t_X12_strip_123 G hG d hd k49 hk49 σ l0 l1 l2 l3 l4 l5 h0
      · refine tr_weak [0, 1, 2, 3, 4, 5] (lv' := [(0, .ref l0), (1, .int l1), (2, .int l2), (3, .int l3), (4, .int l4), (5, .int l5)]) rfl ?_
        exact t_X12_strip_119 G hG d hd k49 hk49 σ l0 l1 l2 l3 l4 l5 h0
set_option maxRecDepth 100000 in
theorem t_X12_strip_85 (G : MG) (hG : (g_l G).stackTraces = false) (d : Nat) (hd : 8 ≤ d)   (k49 : MsSt → Nat → Int32 → Int32 → Int32 → Int32 → Int32 → Option (Int32 × MsSt)) (hk49 : ∀ (s : MsSt) (x1 : Nat) (x2 : Int32) (x3 : Int32) (x4 : Int32) (x5 : Int32) (x6 : Int32), ms_kd x1 = 13 → TrO G mX12_strip d 0 0 0 0 ms_wi 49 [(0, .ref x1), (1, .int x2), (2, .int x3), (3, .int x4), (4, .int x5), (5, .int x6)] [] s (k49 s x1 x2 x3 x4 x5 x6)) (σ : MsSt) (l0 : Nat) (l1 : Int32) (l2 : Int32) (l3 : Int32) (l4 : Int32) (l5 : Int32) (h0 : ms_kd l0 = 13) : TrO G mX12_strip d 0 0 0 0 ms_wi 85 [(0, .ref l0), (1, .int l1), (2, .int l2), (3, .int l3), (4, .int l4), (5, .int l5)] [] σ (f_X12_strip_85 k49 σ l0 l1 l2 l3 l4 l5) := by
  show TrO G mX12_strip d 0 0 0 0 ms_wi 85 [(0, .ref l0), (1, .int l1), (2, .int l2), (3, .int l3), (4, .int l4), (5, .int l5)] [] σ (f_X12_strip_86 k49 σ l0 l1 l2 l3 l4 l5 0)
  refine tr_iconst (v := 0) dX12_strip_85 (by decide +kernel) ?_
  exact t_X12_strip_86 G hG d hd k49 hk49 σ l0 l1 l2 l3 l4 l5 0 h0
set_option maxRecDepth 100000 in
theorem t_X12_strip_49 (G : MG) (hG : (g_l G).stackTraces = false) (d : Nat) (hd : 8 ≤ d)    : ∀ (n : Nat) (σ : MsSt) (l0 : Nat) (l1 : Int32) (l2 : Int32) (l3 : Int32) (l4 : Int32) (l5 : Int32) (h0 : ms_kd l0 = 13), TrO G mX12_strip d 0 0 0 0 ms_wi 49 [(0, .ref l0), (1, .int l1), (2, .int l2), (3, .int l3), (4, .int l4), (5, .int l5)] [] σ (f_X12_strip_49 n σ l0 l1 l2 l3 l4 l5) := by
  intro n
  induction n with
  | zero => exact fun _ _ _ _ _ _ _ _ => tr_none
  | succ n ih =>
    intro σ l0 l1 l2 l3 l4 l5 h0
    show TrO G mX12_strip d 0 0 0 0 ms_wi 49 [(0, .ref l0), (1, .int l1), (2, .int l2), (3, .int l3), (4, .int l4), (5, .int l5)] [] σ (if l5 < (ms_i σ l0 11) then (f_X12_firstMark σ l0 l2).bind fun v6 => if l5 < v6 then f_X12_strip_85 (f_X12_strip_49 n) σ l0 l1 l2 l3 l4 l5 else (ms_ald σ (ms_rf l0 16) (l2 + 1)).bind fun v12 => if l5 < v12 then f_X12_strip_86 (f_X12_strip_49 n) σ l0 l1 l2 l3 l4 l5 1 else f_X12_strip_85 (f_X12_strip_49 n) σ l0 l1 l2 l3 l4 l5 else if 60 < l4 then some ((-2), σ) else (f_X12_write σ l0 l1 (ms_rf l0 20) l4).bind fun s5 => some (((ms_i s5 l0 11) - l4), s5))
    refine tr_iload (i := 5) dX12_strip_49 rfl ?_
    refine tr_aload_n (i := 0) dX12_strip_51 rfl ?_
    refine tr_getI 12 h0 fl_X12_132 (by decide +kernel) dX12_strip_52 ?_
    refine tr_icge (o := none) (tgt := 161) dX12_strip_55 (by decide) ?_ ?_
    · refine tr_iload (i := 4) dX12_strip_161 rfl ?_
      refine tr_bipush (v := 60) dX12_strip_163 (by decide +kernel) ?_
      refine tr_icle (o := none) (tgt := 171) dX12_strip_165 (by decide) ?_ ?_
      · refine tr_aload_n (i := 0) dX12_strip_171 rfl ?_
        refine tr_iload_n (i := 1) dX12_strip_172 rfl ?_
        refine tr_aload_n (i := 0) dX12_strip_173 rfl ?_
        refine tr_getR 12 h0 fl_X12_53 (by decide +kernel) dX12_strip_174 ?_
        refine tr_iload (i := 4) dX12_strip_177 rfl ?_
        refine tr_c_wv (ms_cV (rest := []) (al := [.int l1, .ref (ms_rf l0 20), .int l4]) 12 (sp_X12_write G hG (d - 1) (by omega) σ l0 l1 (ms_rf l0 20) l4 h0 (rk_12_20 h0)) h0 (by decide +kernel) kl_X12_325 fv_X12_write dX12_strip_179 (show _ = some 3 by decide +kernel) (by omega) (Nat.le_of_ble_eq_true rfl) (by decide) (by decide)) (fun s5 => ?_)
        refine tr_aload_n (i := 0) dX12_strip_182 rfl ?_
        refine tr_getI 12 h0 fl_X12_132 (by decide +kernel) dX12_strip_183 ?_
        refine tr_iload (i := 4) dX12_strip_186 rfl ?_
        refine tr_isub dX12_strip_188 ?_
        exact tr_iret rfl rfl (by decide) (by decide) dX12_strip_189
      · refine tr_bipush (v := (-2)) dX12_strip_168 (by decide +kernel) ?_
        exact tr_iret rfl rfl (by decide) (by decide) dX12_strip_170
    · refine tr_iload (i := 5) dX12_strip_58 rfl ?_
      refine tr_aload_n (i := 0) dX12_strip_60 rfl ?_
      refine tr_iload_n (i := 2) dX12_strip_61 rfl ?_
      refine tr_c_i (ms_cV (rest := [.int l5]) (al := [.int l2]) 12 (sp_X12_firstMark G hG (d - 1) (by omega) σ l0 l2 h0) h0 (by decide +kernel) kl_X12_174 fv_X12_firstMark dX12_strip_62 (show _ = some 1 by decide +kernel) (by omega) (Nat.le_of_ble_eq_true rfl) (by decide) (by decide)) (fun v6 => ?_)
      refine tr_iclt (o := none) (tgt := 85) dX12_strip_65 (by decide) ?_ ?_
      · exact t_X12_strip_85 G hG d hd (f_X12_strip_49 n) (fun s y0 y1 y2 y3 y4 y5 g0 => ih s y0 y1 y2 y3 y4 y5 g0) σ l0 l1 l2 l3 l4 l5 h0
      · refine tr_iload (i := 5) dX12_strip_68 rfl ?_
        refine tr_aload_n (i := 0) dX12_strip_70 rfl ?_
        refine tr_getR 12 h0 fl_X12_40 (by decide +kernel) dX12_strip_71 ?_
        refine tr_iload_n (i := 2) dX12_strip_74 rfl ?_
        refine tr_iconst (v := 1) dX12_strip_75 (by decide +kernel) ?_
        refine tr_iadd dX12_strip_76 ?_
        refine tr_ald (rk_12_16 h0) dX12_strip_77 (fun v12 => ?_)
        refine tr_icge (o := none) (tgt := 85) dX12_strip_78 (by decide) ?_ ?_
        · exact t_X12_strip_85 G hG d hd (f_X12_strip_49 n) (fun s y0 y1 y2 y3 y4 y5 g0 => ih s y0 y1 y2 y3 y4 y5 g0) σ l0 l1 l2 l3 l4 l5 h0
        · refine tr_iconst (v := 1) dX12_strip_81 (by decide +kernel) ?_
          refine tr_goto (tgt := 86) dX12_strip_82 (by decide) ?_
          exact t_X12_strip_86 G hG d hd (f_X12_strip_49 n) (fun s y0 y1 y2 y3 y4 y5 g0 => ih s y0 y1 y2 y3 y4 y5 g0) σ l0 l1 l2 l3 l4 l5 1 h0
set_option maxRecDepth 100000 in
theorem t_X12_strip_31 (G : MG) (hG : (g_l G).stackTraces = false) (d : Nat) (hd : 8 ≤ d)    (σ : MsSt) (l0 : Nat) (l1 : Int32) (l2 : Int32) (l3 : Int32) (t0 : Int32) (t1 : Nat) (h0 : ms_kd l0 = 13) (ht1 : ms_kd t1 = 13) : TrO G mX12_strip d 0 0 0 0 ms_wi 31 [(0, .ref l0), (1, .int l1), (2, .int l2), (3, .int l3)] [.int t0, .ref t1] σ (f_X12_strip_31 σ l0 l1 l2 l3 t0 t1) := by
  show TrO G mX12_strip d 0 0 0 0 ms_wi 31 [(0, .ref l0), (1, .int l1), (2, .int l2), (3, .int l3)] [.int t0, .ref t1] σ (ms_nm (ms_si σ t1 7 t0) fun s4 => if (ms_i s4 l0 7) = 0 then f_X12_strip_49 ms_fuel s4 l0 l1 l2 l3 0 0 else some (0, s4))
  refine tr_putI 12 ht1 fl_X12_107 (by decide +kernel) dX12_strip_31 ?_
  refine ms_ltS (fun s4 => ?_)
  refine tr_aload_n (i := 0) dX12_strip_34 rfl ?_
  refine tr_getI 12 h0 fl_X12_107 (by decide +kernel) dX12_strip_35 ?_
  refine tr_ifeq (o := none) (tgt := 43) dX12_strip_38 (by decide) ?_ ?_
  · refine tr_iconst (v := 0) dX12_strip_43 (by decide +kernel) ?_
    refine tr_istore (lv' := [(0, .ref l0), (1, .int l1), (2, .int l2), (3, .int l3), (4, .int 0)]) [1, 2, 3, 4, 0] dX12_strip_44 (by decide) rfl ?_
    refine tr_iconst (v := 0) dX12_strip_46 (by decide +kernel) ?_
    refine tr_istore (lv' := [(0, .ref l0), (1, .int l1), (2, .int l2), (3, .int l3), (4, .int 0), (5, .int 0)]) [1, 2, 3, 4, 5, 0] dX12_strip_47 (by decide) rfl ?_
    exact t_X12_strip_49 G hG d hd ms_fuel s4 l0 l1 l2 l3 0 0 h0
  · refine tr_iconst (v := 0) dX12_strip_41 (by decide +kernel) ?_
    exact tr_iret rfl rfl (by decide) (by decide) dX12_strip_42
set_option maxRecDepth 100000 in
theorem sp_X12_strip (G : MG) (hG : (g_l G).stackTraces = false) (d : Nat) (hd : 8 ≤ d)   (σ : MsSt) (l0 : Nat) (l1 : Int32) (l2 : Int32) (l3 : Int32) (h0 : ms_kd l0 = 13) : MsSpec G mX12_strip d 0 0 [.ref l0, .int l1, .int l2, .int l3] σ ms_wi (f_X12_strip σ l0 l1 l2 l3) := by
  refine ms_start (by decide +kernel) rfl rfl (Nat.le_of_ble_eq_true rfl) ?_
  show TrO G mX12_strip d 0 0 0 0 ms_wi 0 [(0, .ref l0), (1, .int l1), (2, .int l2), (3, .int l3)] [] σ (ms_b2 (f_X12_isCluster σ l0 l1 l2) fun v1 s2 => if v1 = 0 then f_X12_strip_31 s2 l0 l1 l2 l3 1 l0 else (f_X12_inRange s2 l3.toInt64 0 3).bind fun v3 => if v3 = 0 then f_X12_strip_31 s2 l0 l1 l2 l3 2 l0 else f_X12_strip_31 s2 l0 l1 l2 l3 0 l0)
  refine tr_aload_n (i := 0) dX12_strip_0 rfl ?_
  refine tr_aload_n (i := 0) dX12_strip_1 rfl ?_
  refine tr_iload_n (i := 1) dX12_strip_2 rfl ?_
  refine tr_iload_n (i := 2) dX12_strip_3 rfl ?_
  refine tr_d_wi (ms_cV (rest := [.ref l0]) (al := [.int l1, .int l2]) 12 (sp_X12_isCluster G hG (d - 1) (by omega) σ l0 l1 l2 h0) h0 (by decide +kernel) kl_X12_183 fv_X12_isCluster dX12_strip_4 (show _ = some 2 by decide +kernel) (by omega) (Nat.le_of_ble_eq_true rfl) (by decide) (by decide)) (fun v1 s2 => ?_)
  refine tr_ifne (o := none) (tgt := 14) dX12_strip_7 (by decide) ?_ ?_
  · refine tr_iload_n (i := 3) dX12_strip_14 rfl ?_
    refine tr_i2l dX12_strip_15 ?_
    refine tr_lconst (v := 0) dX12_strip_16 (by decide +kernel) ?_
    refine tr_ldcl (v := 3) (List.mem_of_getElem? (i := 2097) (by decide +kernel)) dX12_strip_17 ?_
    refine tr_c_i (ms_cS (rest := [.ref l0]) (al := [.long l3.toInt64, .long 0, .long 3]) (sp_X12_inRange G hG (d - 1) (by omega) s2 l3.toInt64 0 3) kl_X12_110 fs_X12_inRange dX12_strip_20 (show _ = some 3 by decide +kernel) (by omega) (Nat.le_of_ble_eq_true rfl) (by decide) (by decide)) (fun v3 => ?_)
    refine tr_ifeq (o := none) (tgt := 30) dX12_strip_23 (by decide) ?_ ?_
    · refine tr_iconst (v := 2) dX12_strip_30 (by decide +kernel) ?_
      exact t_X12_strip_31 G hG d hd s2 l0 l1 l2 l3 2 l0 h0 h0
    · refine tr_iconst (v := 0) dX12_strip_26 (by decide +kernel) ?_
      refine tr_goto (tgt := 31) dX12_strip_27 (by decide) ?_
      exact t_X12_strip_31 G hG d hd s2 l0 l1 l2 l3 0 l0 h0 h0
  · refine tr_iconst (v := 1) dX12_strip_10 (by decide +kernel) ?_
    refine tr_goto (tgt := 31) dX12_strip_11 (by decide) ?_
    exact t_X12_strip_31 G hG d hd s2 l0 l1 l2 l3 1 l0 h0 h0
theorem dX12_become_0 : decode cX12_become 0 = .ok (.iload_n 3, 1) := by decide +kernel
theorem dX12_become_1 : decode cX12_become 1 = .ok (.bipush 60, 2) := by decide +kernel
theorem dX12_become_3 : decode cX12_become 3 = .ok (.if_icmp .le 6, 3) := by decide +kernel
theorem dX12_become_6 : decode cX12_become 6 = .ok (.bipush (-2), 2) := by decide +kernel
theorem dX12_become_8 : decode cX12_become 8 = .ok (.ireturn, 1) := by decide +kernel
theorem dX12_become_9 : decode cX12_become 9 = .ok (.aload_n 0, 1) := by decide +kernel
theorem dX12_become_10 : decode cX12_become 10 = .ok (.iload_n 1, 1) := by decide +kernel
theorem dX12_become_11 : decode cX12_become 11 = .ok (.aload_n 2, 1) := by decide +kernel
theorem dX12_become_12 : decode cX12_become 12 = .ok (.iload_n 3, 1) := by decide +kernel
theorem dX12_become_13 : decode cX12_become 13 = .ok (.invokevirtual 325, 3) := by decide +kernel
theorem dX12_become_16 : decode cX12_become 16 = .ok (.iload_n 3, 1) := by decide +kernel
theorem dX12_become_17 : decode cX12_become 17 = .ok (.ireturn, 1) := by decide +kernel
set_option maxRecDepth 100000 in
theorem sp_X12_become (G : MG) (hG : (g_l G).stackTraces = false) (d : Nat) (hd : 3 ≤ d)   (σ : MsSt) (l0 : Nat) (l1 : Int32) (l2 : Nat) (l3 : Int32) (h0 : ms_kd l0 = 13) (h2 : ms_kd l2 = 20) : MsSpec G mX12_become d 0 0 [.ref l0, .int l1, .ref l2, .int l3] σ ms_wi (f_X12_become σ l0 l1 l2 l3) := by
  refine ms_start (by decide +kernel) rfl rfl (Nat.le_of_ble_eq_true rfl) ?_
  show TrO G mX12_become d 0 0 0 0 ms_wi 0 [(0, .ref l0), (1, .int l1), (2, .ref l2), (3, .int l3)] [] σ (if 60 < l3 then some ((-2), σ) else (f_X12_write σ l0 l1 l2 l3).bind fun s1 => some (l3, s1))
  refine tr_iload_n (i := 3) dX12_become_0 rfl ?_
  refine tr_bipush (v := 60) dX12_become_1 (by decide +kernel) ?_
  refine tr_icle (o := none) (tgt := 9) dX12_become_3 (by decide) ?_ ?_
  · refine tr_aload_n (i := 0) dX12_become_9 rfl ?_
    refine tr_iload_n (i := 1) dX12_become_10 rfl ?_
    refine tr_aload_n (i := 2) dX12_become_11 rfl ?_
    refine tr_iload_n (i := 3) dX12_become_12 rfl ?_
    refine tr_c_wv (ms_cV (rest := []) (al := [.int l1, .ref l2, .int l3]) 12 (sp_X12_write G hG (d - 1) (by omega) σ l0 l1 l2 l3 h0 h2) h0 (by decide +kernel) kl_X12_325 fv_X12_write dX12_become_13 (show _ = some 3 by decide +kernel) (by omega) (Nat.le_of_ble_eq_true rfl) (by decide) (by decide)) (fun s1 => ?_)
    refine tr_iload_n (i := 3) dX12_become_16 rfl ?_
    exact tr_iret rfl rfl (by decide) (by decide) dX12_become_17
  · refine tr_bipush (v := (-2)) dX12_become_6 (by decide +kernel) ?_
    exact tr_iret rfl rfl (by decide) (by decide) dX12_become_8
theorem dX12_decompose_0 : decode cX12_decompose 0 = .ok (.aload_n 0, 1) := by decide +kernel
theorem dX12_decompose_1 : decode cX12_decompose 1 = .ok (.iload_n 1, 1) := by decide +kernel
theorem dX12_decompose_2 : decode cX12_decompose 2 = .ok (.invokevirtual 247, 3) := by decide +kernel
theorem dX12_decompose_5 : decode cX12_decompose 5 = .ok (.ifCond .eq 5, 3) := by decide +kernel
theorem dX12_decompose_8 : decode cX12_decompose 8 = .ok (.iconst 0, 1) := by decide +kernel
theorem dX12_decompose_9 : decode cX12_decompose 9 = .ok (.ireturn, 1) := by decide +kernel
theorem dX12_decompose_10 : decode cX12_decompose 10 = .ok (.aload_n 0, 1) := by decide +kernel
theorem dX12_decompose_11 : decode cX12_decompose 11 = .ok (.iload_n 1, 1) := by decide +kernel
theorem dX12_decompose_12 : decode cX12_decompose 12 = .ok (.invokevirtual 162, 3) := by decide +kernel
theorem dX12_decompose_15 : decode cX12_decompose 15 = .ok (.aload_n 0, 1) := by decide +kernel
theorem dX12_decompose_16 : decode cX12_decompose 16 = .ok (.iload_n 1, 1) := by decide +kernel
theorem dX12_decompose_17 : decode cX12_decompose 17 = .ok (.aload_n 0, 1) := by decide +kernel
theorem dX12_decompose_18 : decode cX12_decompose 18 = .ok (.getfield 31, 3) := by decide +kernel
theorem dX12_decompose_21 : decode cX12_decompose 21 = .ok (.aload_n 0, 1) := by decide +kernel
theorem dX12_decompose_22 : decode cX12_decompose 22 = .ok (.getfield 132, 3) := by decide +kernel
theorem dX12_decompose_25 : decode cX12_decompose 25 = .ok (.invokevirtual 331, 3) := by decide +kernel
theorem dX12_decompose_28 : decode cX12_decompose 28 = .ok (.ireturn, 1) := by decide +kernel
set_option maxRecDepth 100000 in
theorem sp_X12_decompose (G : MG) (hG : (g_l G).stackTraces = false) (d : Nat) (hd : 6 ≤ d)   (σ : MsSt) (l0 : Nat) (l1 : Int32) (h0 : ms_kd l0 = 13) : MsSpec G mX12_decompose d 0 0 [.ref l0, .int l1] σ ms_wi (f_X12_decompose σ l0 l1) := by
  refine ms_start (by decide +kernel) rfl rfl (Nat.le_of_ble_eq_true rfl) ?_
  show TrO G mX12_decompose d 0 0 0 0 ms_wi 0 [(0, .ref l0), (1, .int l1)] [] σ (ms_b2 (f_X12_noLine σ l0 l1) fun v1 s2 => if v1 = 0 then (f_X12_layDecomposed s2 l0 l1).bind fun s3 => ms_b2 (f_X12_become s3 l0 l1 (ms_rf l0 10) (ms_i s3 l0 11)) fun v4 s5 => some (v4, s5) else some (0, s2))
  refine tr_aload_n (i := 0) dX12_decompose_0 rfl ?_
  refine tr_iload_n (i := 1) dX12_decompose_1 rfl ?_
  refine tr_d_wi (ms_cV (rest := []) (al := [.int l1]) 12 (sp_X12_noLine G hG (d - 1) (by omega) σ l0 l1 h0) h0 (by decide +kernel) kl_X12_247 fv_X12_noLine dX12_decompose_2 (show _ = some 1 by decide +kernel) (by omega) (Nat.le_of_ble_eq_true rfl) (by decide) (by decide)) (fun v1 s2 => ?_)
  refine tr_ifeq (o := none) (tgt := 10) dX12_decompose_5 (by decide) ?_ ?_
  · refine tr_aload_n (i := 0) dX12_decompose_10 rfl ?_
    refine tr_iload_n (i := 1) dX12_decompose_11 rfl ?_
    refine tr_c_wv (ms_cV (rest := []) (al := [.int l1]) 12 (sp_X12_layDecomposed G hG (d - 1) (by omega) s2 l0 l1 h0) h0 (by decide +kernel) kl_X12_162 fv_X12_layDecomposed dX12_decompose_12 (show _ = some 1 by decide +kernel) (by omega) (Nat.le_of_ble_eq_true rfl) (by decide) (by decide)) (fun s3 => ?_)
    refine tr_aload_n (i := 0) dX12_decompose_15 rfl ?_
    refine tr_iload_n (i := 1) dX12_decompose_16 rfl ?_
    refine tr_aload_n (i := 0) dX12_decompose_17 rfl ?_
    refine tr_getR 12 h0 fl_X12_31 (by decide +kernel) dX12_decompose_18 ?_
    refine tr_aload_n (i := 0) dX12_decompose_21 rfl ?_
    refine tr_getI 12 h0 fl_X12_132 (by decide +kernel) dX12_decompose_22 ?_
    refine tr_d_wi (ms_cV (rest := []) (al := [.int l1, .ref (ms_rf l0 10), .int (ms_i s3 l0 11)]) 12 (sp_X12_become G hG (d - 1) (by omega) s3 l0 l1 (ms_rf l0 10) (ms_i s3 l0 11) h0 (rk_12_10 h0)) h0 (by decide +kernel) kl_X12_331 fv_X12_become dX12_decompose_25 (show _ = some 3 by decide +kernel) (by omega) (Nat.le_of_ble_eq_true rfl) (by decide) (by decide)) (fun v4 s5 => ?_)
    exact tr_iret rfl rfl (by decide) (by decide) dX12_decompose_28
  · refine tr_iconst (v := 0) dX12_decompose_8 (by decide +kernel) ?_
    exact tr_iret rfl rfl (by decide) (by decide) dX12_decompose_9
theorem dX12_compose_0 : decode cX12_compose 0 = .ok (.aload_n 0, 1) := by decide +kernel
theorem dX12_compose_1 : decode cX12_compose 1 = .ok (.iload_n 1, 1) := by decide +kernel
theorem dX12_compose_2 : decode cX12_compose 2 = .ok (.invokevirtual 247, 3) := by decide +kernel
theorem dX12_compose_5 : decode cX12_compose 5 = .ok (.ifCond .eq 5, 3) := by decide +kernel
theorem dX12_compose_8 : decode cX12_compose 8 = .ok (.iconst 0, 1) := by decide +kernel
theorem dX12_compose_9 : decode cX12_compose 9 = .ok (.ireturn, 1) := by decide +kernel
theorem dX12_compose_10 : decode cX12_compose 10 = .ok (.aload_n 0, 1) := by decide +kernel
theorem dX12_compose_11 : decode cX12_compose 11 = .ok (.iload_n 1, 1) := by decide +kernel
theorem dX12_compose_12 : decode cX12_compose 12 = .ok (.invokevirtual 262, 3) := by decide +kernel
theorem dX12_compose_15 : decode cX12_compose 15 = .ok (.aload_n 0, 1) := by decide +kernel
theorem dX12_compose_16 : decode cX12_compose 16 = .ok (.iload_n 1, 1) := by decide +kernel
theorem dX12_compose_17 : decode cX12_compose 17 = .ok (.aload_n 0, 1) := by decide +kernel
theorem dX12_compose_18 : decode cX12_compose 18 = .ok (.getfield 34, 3) := by decide +kernel
theorem dX12_compose_21 : decode cX12_compose 21 = .ok (.aload_n 0, 1) := by decide +kernel
theorem dX12_compose_22 : decode cX12_compose 22 = .ok (.getfield 155, 3) := by decide +kernel
theorem dX12_compose_25 : decode cX12_compose 25 = .ok (.invokevirtual 331, 3) := by decide +kernel
theorem dX12_compose_28 : decode cX12_compose 28 = .ok (.ireturn, 1) := by decide +kernel
set_option maxRecDepth 100000 in
theorem sp_X12_compose (G : MG) (hG : (g_l G).stackTraces = false) (d : Nat) (hd : 7 ≤ d)   (σ : MsSt) (l0 : Nat) (l1 : Int32) (h0 : ms_kd l0 = 13) : MsSpec G mX12_compose d 0 0 [.ref l0, .int l1] σ ms_wi (f_X12_compose σ l0 l1) := by
  refine ms_start (by decide +kernel) rfl rfl (Nat.le_of_ble_eq_true rfl) ?_
  show TrO G mX12_compose d 0 0 0 0 ms_wi 0 [(0, .ref l0), (1, .int l1)] [] σ (ms_b2 (f_X12_noLine σ l0 l1) fun v1 s2 => if v1 = 0 then (f_X12_layForms s2 l0 l1).bind fun s3 => ms_b2 (f_X12_become s3 l0 l1 (ms_rf l0 13) (ms_i s3 l0 15)) fun v4 s5 => some (v4, s5) else some (0, s2))
  refine tr_aload_n (i := 0) dX12_compose_0 rfl ?_
  refine tr_iload_n (i := 1) dX12_compose_1 rfl ?_
  refine tr_d_wi (ms_cV (rest := []) (al := [.int l1]) 12 (sp_X12_noLine G hG (d - 1) (by omega) σ l0 l1 h0) h0 (by decide +kernel) kl_X12_247 fv_X12_noLine dX12_compose_2 (show _ = some 1 by decide +kernel) (by omega) (Nat.le_of_ble_eq_true rfl) (by decide) (by decide)) (fun v1 s2 => ?_)
  refine tr_ifeq (o := none) (tgt := 10) dX12_compose_5 (by decide) ?_ ?_
  · refine tr_aload_n (i := 0) dX12_compose_10 rfl ?_
    refine tr_iload_n (i := 1) dX12_compose_11 rfl ?_
    refine tr_c_wv (ms_cV (rest := []) (al := [.int l1]) 12 (sp_X12_layForms G hG (d - 1) (by omega) s2 l0 l1 h0) h0 (by decide +kernel) kl_X12_262 fv_X12_layForms dX12_compose_12 (show _ = some 1 by decide +kernel) (by omega) (Nat.le_of_ble_eq_true rfl) (by decide) (by decide)) (fun s3 => ?_)
    refine tr_aload_n (i := 0) dX12_compose_15 rfl ?_
    refine tr_iload_n (i := 1) dX12_compose_16 rfl ?_
    refine tr_aload_n (i := 0) dX12_compose_17 rfl ?_
    refine tr_getR 12 h0 fl_X12_34 (by decide +kernel) dX12_compose_18 ?_
    refine tr_aload_n (i := 0) dX12_compose_21 rfl ?_
    refine tr_getI 12 h0 fl_X12_155 (by decide +kernel) dX12_compose_22 ?_
    refine tr_d_wi (ms_cV (rest := []) (al := [.int l1, .ref (ms_rf l0 13), .int (ms_i s3 l0 15)]) 12 (sp_X12_become G hG (d - 1) (by omega) s3 l0 l1 (ms_rf l0 13) (ms_i s3 l0 15) h0 (rk_12_13 h0)) h0 (by decide +kernel) kl_X12_331 fv_X12_become dX12_compose_25 (show _ = some 3 by decide +kernel) (by omega) (Nat.le_of_ble_eq_true rfl) (by decide) (by decide)) (fun v4 s5 => ?_)
    exact tr_iret rfl rfl (by decide) (by decide) dX12_compose_28
  · refine tr_iconst (v := 0) dX12_compose_8 (by decide +kernel) ?_
    exact tr_iret rfl rfl (by decide) (by decide) dX12_compose_9
theorem dX12_join_0 : decode cX12_join 0 = .ok (.aload_n 0, 1) := by decide +kernel
theorem dX12_join_1 : decode cX12_join 1 = .ok (.iload_n 1, 1) := by decide +kernel
theorem dX12_join_2 : decode cX12_join 2 = .ok (.iload_n 2, 1) := by decide +kernel
theorem dX12_join_3 : decode cX12_join 3 = .ok (.invokevirtual 296, 3) := by decide +kernel
theorem dX12_join_6 : decode cX12_join 6 = .ok (.ifCond .eq 5, 3) := by decide +kernel
theorem dX12_join_9 : decode cX12_join 9 = .ok (.iconst 0, 1) := by decide +kernel
theorem dX12_join_10 : decode cX12_join 10 = .ok (.ireturn, 1) := by decide +kernel
theorem dX12_join_11 : decode cX12_join 11 = .ok (.aload_n 0, 1) := by decide +kernel
theorem dX12_join_12 : decode cX12_join 12 = .ok (.getfield 9, 3) := by decide +kernel
theorem dX12_join_15 : decode cX12_join 15 = .ok (.iconst 3, 1) := by decide +kernel
theorem dX12_join_16 : decode cX12_join 16 = .ok (.iload_n 1, 1) := by decide +kernel
theorem dX12_join_17 : decode cX12_join 17 = .ok (.iadd, 1) := by decide +kernel
theorem dX12_join_18 : decode cX12_join 18 = .ok (.iaload, 1) := by decide +kernel
theorem dX12_join_19 : decode cX12_join 19 = .ok (.istore_n 3, 1) := by decide +kernel
theorem dX12_join_20 : decode cX12_join 20 = .ok (.aload_n 0, 1) := by decide +kernel
theorem dX12_join_21 : decode cX12_join 21 = .ok (.getfield 9, 3) := by decide +kernel
theorem dX12_join_24 : decode cX12_join 24 = .ok (.iconst 3, 1) := by decide +kernel
theorem dX12_join_25 : decode cX12_join 25 = .ok (.iload_n 2, 1) := by decide +kernel
theorem dX12_join_26 : decode cX12_join 26 = .ok (.iadd, 1) := by decide +kernel
theorem dX12_join_27 : decode cX12_join 27 = .ok (.iaload, 1) := by decide +kernel
theorem dX12_join_28 : decode cX12_join 28 = .ok (.istore 4, 2) := by decide +kernel
theorem dX12_join_30 : decode cX12_join 30 = .ok (.iload_n 3, 1) := by decide +kernel
theorem dX12_join_31 : decode cX12_join 31 = .ok (.iload 4, 2) := by decide +kernel
theorem dX12_join_33 : decode cX12_join 33 = .ok (.iadd, 1) := by decide +kernel
theorem dX12_join_34 : decode cX12_join 34 = .ok (.bipush 60, 2) := by decide +kernel
theorem dX12_join_36 : decode cX12_join 36 = .ok (.if_icmp .le 6, 3) := by decide +kernel
theorem dX12_join_39 : decode cX12_join 39 = .ok (.bipush (-2), 2) := by decide +kernel
theorem dX12_join_41 : decode cX12_join 41 = .ok (.ireturn, 1) := by decide +kernel
theorem dX12_join_42 : decode cX12_join 42 = .ok (.aload_n 0, 1) := by decide +kernel
theorem dX12_join_43 : decode cX12_join 43 = .ok (.invokevirtual 319, 3) := by decide +kernel
theorem dX12_join_46 : decode cX12_join 46 = .ok (.iconst 0, 1) := by decide +kernel
theorem dX12_join_47 : decode cX12_join 47 = .ok (.istore 5, 2) := by decide +kernel
theorem dX12_join_49 : decode cX12_join 49 = .ok (.iload 5, 2) := by decide +kernel
theorem dX12_join_51 : decode cX12_join 51 = .ok (.iload 4, 2) := by decide +kernel
theorem dX12_join_53 : decode cX12_join 53 = .ok (.if_icmp .ge 33, 3) := by decide +kernel
theorem dX12_join_56 : decode cX12_join 56 = .ok (.aload_n 0, 1) := by decide +kernel
theorem dX12_join_57 : decode cX12_join 57 = .ok (.getfield 9, 3) := by decide +kernel
theorem dX12_join_60 : decode cX12_join 60 = .ok (.iload_n 1, 1) := by decide +kernel
theorem dX12_join_61 : decode cX12_join 61 = .ok (.iload_n 3, 1) := by decide +kernel
theorem dX12_join_62 : decode cX12_join 62 = .ok (.iload 5, 2) := by decide +kernel
theorem dX12_join_64 : decode cX12_join 64 = .ok (.iadd, 1) := by decide +kernel
theorem dX12_join_65 : decode cX12_join 65 = .ok (.invokestatic 149, 3) := by decide +kernel
theorem dX12_join_68 : decode cX12_join 68 = .ok (.aload_n 0, 1) := by decide +kernel
theorem dX12_join_69 : decode cX12_join 69 = .ok (.getfield 9, 3) := by decide +kernel
theorem dX12_join_72 : decode cX12_join 72 = .ok (.iload_n 2, 1) := by decide +kernel
theorem dX12_join_73 : decode cX12_join 73 = .ok (.iload 5, 2) := by decide +kernel
theorem dX12_join_75 : decode cX12_join 75 = .ok (.invokestatic 149, 3) := by decide +kernel
theorem dX12_join_78 : decode cX12_join 78 = .ok (.iaload, 1) := by decide +kernel
theorem dX12_join_79 : decode cX12_join 79 = .ok (.iastore, 1) := by decide +kernel
theorem dX12_join_80 : decode cX12_join 80 = .ok (.iinc 5 1, 3) := by decide +kernel
theorem dX12_join_83 : decode cX12_join 83 = .ok (.goto (-34), 3) := by decide +kernel
theorem dX12_join_86 : decode cX12_join 86 = .ok (.aload_n 0, 1) := by decide +kernel
theorem dX12_join_87 : decode cX12_join 87 = .ok (.getfield 9, 3) := by decide +kernel
theorem dX12_join_90 : decode cX12_join 90 = .ok (.iconst 3, 1) := by decide +kernel
theorem dX12_join_91 : decode cX12_join 91 = .ok (.iload_n 1, 1) := by decide +kernel
theorem dX12_join_92 : decode cX12_join 92 = .ok (.iadd, 1) := by decide +kernel
theorem dX12_join_93 : decode cX12_join 93 = .ok (.iload_n 3, 1) := by decide +kernel
theorem dX12_join_94 : decode cX12_join 94 = .ok (.iload 4, 2) := by decide +kernel
theorem dX12_join_96 : decode cX12_join 96 = .ok (.iadd, 1) := by decide +kernel
theorem dX12_join_97 : decode cX12_join 97 = .ok (.iastore, 1) := by decide +kernel
theorem dX12_join_98 : decode cX12_join 98 = .ok (.iload_n 3, 1) := by decide +kernel
theorem dX12_join_99 : decode cX12_join 99 = .ok (.iload 4, 2) := by decide +kernel
theorem dX12_join_101 : decode cX12_join 101 = .ok (.iadd, 1) := by decide +kernel
theorem dX12_join_102 : decode cX12_join 102 = .ok (.ireturn, 1) := by decide +kernel
set_option maxRecDepth 100000 in
theorem t_X12_join_49 (G : MG) (hG : (g_l G).stackTraces = false) (d : Nat) (hd : 3 ≤ d)    : ∀ (n : Nat) (σ : MsSt) (l0 : Nat) (l1 : Int32) (l2 : Int32) (l3 : Int32) (l4 : Int32) (l5 : Int32) (h0 : ms_kd l0 = 13), TrO G mX12_join d 0 0 0 0 ms_wi 49 [(0, .ref l0), (1, .int l1), (2, .int l2), (3, .int l3), (4, .int l4), (5, .int l5)] [] σ (f_X12_join_49 n σ l0 l1 l2 l3 l4 l5) := by
  intro n
  induction n with
  | zero => exact fun _ _ _ _ _ _ _ _ => tr_none
  | succ n ih =>
    intro σ l0 l1 l2 l3 l4 l5 h0
    show TrO G mX12_join d 0 0 0 0 ms_wi 49 [(0, .ref l0), (1, .int l1), (2, .int l2), (3, .int l3), (4, .int l4), (5, .int l5)] [] σ (if l5 < l4 then (f_X12_spot σ l1 (l3 + l5)).bind fun v7 => (f_X12_spot σ l2 l5).bind fun v8 => (ms_ald σ (ms_rf l0 0) v8).bind fun v9 => (ms_ast σ (ms_rf l0 0) v7 v9).bind fun s10 => (f_X12_join_49 n) s10 l0 l1 l2 l3 l4 (l5 + 1) else (ms_ast σ (ms_rf l0 0) (3 + l1) (l3 + l4)).bind fun s6 => some ((l3 + l4), s6))
    refine tr_iload (i := 5) dX12_join_49 rfl ?_
    refine tr_iload (i := 4) dX12_join_51 rfl ?_
    refine tr_icge (o := none) (tgt := 86) dX12_join_53 (by decide) ?_ ?_
    · refine tr_aload_n (i := 0) dX12_join_86 rfl ?_
      refine tr_getR 12 h0 fl_X12_9 (by decide +kernel) dX12_join_87 ?_
      refine tr_iconst (v := 3) dX12_join_90 (by decide +kernel) ?_
      refine tr_iload_n (i := 1) dX12_join_91 rfl ?_
      refine tr_iadd dX12_join_92 ?_
      refine tr_iload_n (i := 3) dX12_join_93 rfl ?_
      refine tr_iload (i := 4) dX12_join_94 rfl ?_
      refine tr_iadd dX12_join_96 ?_
      refine tr_ast (rk_12_0 h0) dX12_join_97 (fun s6 => ?_)
      refine tr_iload_n (i := 3) dX12_join_98 rfl ?_
      refine tr_iload (i := 4) dX12_join_99 rfl ?_
      refine tr_iadd dX12_join_101 ?_
      exact tr_iret rfl rfl (by decide) (by decide) dX12_join_102
    · refine tr_aload_n (i := 0) dX12_join_56 rfl ?_
      refine tr_getR 12 h0 fl_X12_9 (by decide +kernel) dX12_join_57 ?_
      refine tr_iload_n (i := 1) dX12_join_60 rfl ?_
      refine tr_iload_n (i := 3) dX12_join_61 rfl ?_
      refine tr_iload (i := 5) dX12_join_62 rfl ?_
      refine tr_iadd dX12_join_64 ?_
      refine tr_c_i (ms_cS (rest := [.ref (ms_rf l0 0)]) (al := [.int l1, .int (l3 + l5)]) (sp_X12_spot G hG (d - 1) (by omega) σ l1 (l3 + l5)) kl_X12_149 fs_X12_spot dX12_join_65 (show _ = some 2 by decide +kernel) (by omega) (Nat.le_of_ble_eq_true rfl) (by decide) (by decide)) (fun v7 => ?_)
      refine tr_aload_n (i := 0) dX12_join_68 rfl ?_
      refine tr_getR 12 h0 fl_X12_9 (by decide +kernel) dX12_join_69 ?_
      refine tr_iload_n (i := 2) dX12_join_72 rfl ?_
      refine tr_iload (i := 5) dX12_join_73 rfl ?_
      refine tr_c_i (ms_cS (rest := [.ref (ms_rf l0 0), .int v7, .ref (ms_rf l0 0)]) (al := [.int l2, .int l5]) (sp_X12_spot G hG (d - 1) (by omega) σ l2 l5) kl_X12_149 fs_X12_spot dX12_join_75 (show _ = some 2 by decide +kernel) (by omega) (Nat.le_of_ble_eq_true rfl) (by decide) (by decide)) (fun v8 => ?_)
      refine tr_ald (rk_12_0 h0) dX12_join_78 (fun v9 => ?_)
      refine tr_ast (rk_12_0 h0) dX12_join_79 (fun s10 => ?_)
      refine tr_iinc (k := 5) (v := (l5 + 1)) (lv' := [(0, .ref l0), (1, .int l1), (2, .int l2), (3, .int l3), (4, .int l4), (5, .int (l5 + 1))]) [1, 2, 3, 4, 5, 0] dX12_join_80 rfl rfl (by decide) rfl ?_
      refine tr_goto (tgt := 49) dX12_join_83 (by decide) ?_
      exact (fun s y0 y1 y2 y3 y4 y5 g0 => ih s y0 y1 y2 y3 y4 y5 g0) s10 l0 l1 l2 l3 l4 (l5 + 1) h0
set_option maxRecDepth 100000 in
theorem sp_X12_join (G : MG) (hG : (g_l G).stackTraces = false) (d : Nat) (hd : 3 ≤ d)   (σ : MsSt) (l0 : Nat) (l1 : Int32) (l2 : Int32) (h0 : ms_kd l0 = 13) : MsSpec G mX12_join d 0 0 [.ref l0, .int l1, .int l2] σ ms_wi (f_X12_join σ l0 l1 l2) := by
  refine ms_start (by decide +kernel) rfl rfl (Nat.le_of_ble_eq_true rfl) ?_
  show TrO G mX12_join d 0 0 0 0 ms_wi 0 [(0, .ref l0), (1, .int l1), (2, .int l2)] [] σ (ms_b2 (f_X12_noTwoLines σ l0 l1 l2) fun v1 s2 => if v1 = 0 then (ms_ald s2 (ms_rf l0 0) (3 + l1)).bind fun v3 => (ms_ald s2 (ms_rf l0 0) (3 + l2)).bind fun v4 => if 60 < (v3 + v4) then some ((-2), s2) else (f_X12_record s2 l0).bind fun s5 => f_X12_join_49 ms_fuel s5 l0 l1 l2 v3 v4 0 else some (0, s2))
  refine tr_aload_n (i := 0) dX12_join_0 rfl ?_
  refine tr_iload_n (i := 1) dX12_join_1 rfl ?_
  refine tr_iload_n (i := 2) dX12_join_2 rfl ?_
  refine tr_d_wi (ms_cV (rest := []) (al := [.int l1, .int l2]) 12 (sp_X12_noTwoLines G hG (d - 1) (by omega) σ l0 l1 l2 h0) h0 (by decide +kernel) kl_X12_296 fv_X12_noTwoLines dX12_join_3 (show _ = some 2 by decide +kernel) (by omega) (Nat.le_of_ble_eq_true rfl) (by decide) (by decide)) (fun v1 s2 => ?_)
  refine tr_ifeq (o := none) (tgt := 11) dX12_join_6 (by decide) ?_ ?_
  · refine tr_aload_n (i := 0) dX12_join_11 rfl ?_
    refine tr_getR 12 h0 fl_X12_9 (by decide +kernel) dX12_join_12 ?_
    refine tr_iconst (v := 3) dX12_join_15 (by decide +kernel) ?_
    refine tr_iload_n (i := 1) dX12_join_16 rfl ?_
    refine tr_iadd dX12_join_17 ?_
    refine tr_ald (rk_12_0 h0) dX12_join_18 (fun v3 => ?_)
    refine tr_istore_n (lv' := [(0, .ref l0), (1, .int l1), (2, .int l2), (3, .int v3)]) [1, 2, 3, 0] dX12_join_19 (by decide) rfl ?_
    refine tr_aload_n (i := 0) dX12_join_20 rfl ?_
    refine tr_getR 12 h0 fl_X12_9 (by decide +kernel) dX12_join_21 ?_
    refine tr_iconst (v := 3) dX12_join_24 (by decide +kernel) ?_
    refine tr_iload_n (i := 2) dX12_join_25 rfl ?_
    refine tr_iadd dX12_join_26 ?_
    refine tr_ald (rk_12_0 h0) dX12_join_27 (fun v4 => ?_)
    refine tr_istore (lv' := [(0, .ref l0), (1, .int l1), (2, .int l2), (3, .int v3), (4, .int v4)]) [1, 2, 3, 4, 0] dX12_join_28 (by decide) rfl ?_
    refine tr_iload_n (i := 3) dX12_join_30 rfl ?_
    refine tr_iload (i := 4) dX12_join_31 rfl ?_
    refine tr_iadd dX12_join_33 ?_
    refine tr_bipush (v := 60) dX12_join_34 (by decide +kernel) ?_
    refine tr_icle (o := none) (tgt := 42) dX12_join_36 (by decide) ?_ ?_
    · refine tr_aload_n (i := 0) dX12_join_42 rfl ?_
      refine tr_c_wv (ms_cV (rest := []) (al := []) 12 (sp_X12_record G hG (d - 1) (by omega) s2 l0 h0) h0 (by decide +kernel) kl_X12_319 fv_X12_record dX12_join_43 (show _ = some 0 by decide +kernel) (by omega) (Nat.le_of_ble_eq_true rfl) (by decide) (by decide)) (fun s5 => ?_)
      refine tr_iconst (v := 0) dX12_join_46 (by decide +kernel) ?_
      refine tr_istore (lv' := [(0, .ref l0), (1, .int l1), (2, .int l2), (3, .int v3), (4, .int v4), (5, .int 0)]) [1, 2, 3, 4, 5, 0] dX12_join_47 (by decide) rfl ?_
      exact t_X12_join_49 G hG d hd ms_fuel s5 l0 l1 l2 v3 v4 0 h0
    · refine tr_bipush (v := (-2)) dX12_join_39 (by decide +kernel) ?_
      exact tr_iret rfl rfl (by decide) (by decide) dX12_join_41
  · refine tr_iconst (v := 0) dX12_join_9 (by decide +kernel) ?_
    exact tr_iret rfl rfl (by decide) (by decide) dX12_join_10
theorem dX12_set_0 : decode cX12_set 0 = .ok (.aload_n 0, 1) := by decide +kernel
theorem dX12_set_1 : decode cX12_set 1 = .ok (.invokevirtual 319, 3) := by decide +kernel
theorem dX12_set_4 : decode cX12_set 4 = .ok (.aload_n 0, 1) := by decide +kernel
theorem dX12_set_5 : decode cX12_set 5 = .ok (.getfield 9, 3) := by decide +kernel
theorem dX12_set_8 : decode cX12_set 8 = .ok (.iload_n 1, 1) := by decide +kernel
theorem dX12_set_9 : decode cX12_set 9 = .ok (.iaload, 1) := by decide +kernel
theorem dX12_set_10 : decode cX12_set 10 = .ok (.istore_n 3, 1) := by decide +kernel
theorem dX12_set_11 : decode cX12_set 11 = .ok (.aload_n 0, 1) := by decide +kernel
theorem dX12_set_12 : decode cX12_set 12 = .ok (.getfield 9, 3) := by decide +kernel
theorem dX12_set_15 : decode cX12_set 15 = .ok (.iload_n 1, 1) := by decide +kernel
theorem dX12_set_16 : decode cX12_set 16 = .ok (.iload_n 2, 1) := by decide +kernel
theorem dX12_set_17 : decode cX12_set 17 = .ok (.iastore, 1) := by decide +kernel
theorem dX12_set_18 : decode cX12_set 18 = .ok (.iload_n 3, 1) := by decide +kernel
theorem dX12_set_19 : decode cX12_set 19 = .ok (.ireturn, 1) := by decide +kernel
set_option maxRecDepth 100000 in
theorem sp_X12_set (G : MG) (hG : (g_l G).stackTraces = false) (d : Nat) (hd : 2 ≤ d)   (σ : MsSt) (l0 : Nat) (l1 : Int32) (l2 : Int32) (h0 : ms_kd l0 = 13) : MsSpec G mX12_set d 0 0 [.ref l0, .int l1, .int l2] σ ms_wi (f_X12_set σ l0 l1 l2) := by
  refine ms_start (by decide +kernel) rfl rfl (Nat.le_of_ble_eq_true rfl) ?_
  show TrO G mX12_set d 0 0 0 0 ms_wi 0 [(0, .ref l0), (1, .int l1), (2, .int l2)] [] σ ((f_X12_record σ l0).bind fun s1 => (ms_ald s1 (ms_rf l0 0) l1).bind fun v2 => (ms_ast s1 (ms_rf l0 0) l1 l2).bind fun s3 => some (v2, s3))
  refine tr_aload_n (i := 0) dX12_set_0 rfl ?_
  refine tr_c_wv (ms_cV (rest := []) (al := []) 12 (sp_X12_record G hG (d - 1) (by omega) σ l0 h0) h0 (by decide +kernel) kl_X12_319 fv_X12_record dX12_set_1 (show _ = some 0 by decide +kernel) (by omega) (Nat.le_of_ble_eq_true rfl) (by decide) (by decide)) (fun s1 => ?_)
  refine tr_aload_n (i := 0) dX12_set_4 rfl ?_
  refine tr_getR 12 h0 fl_X12_9 (by decide +kernel) dX12_set_5 ?_
  refine tr_iload_n (i := 1) dX12_set_8 rfl ?_
  refine tr_ald (rk_12_0 h0) dX12_set_9 (fun v2 => ?_)
  refine tr_istore_n (lv' := [(0, .ref l0), (1, .int l1), (2, .int l2), (3, .int v2)]) [1, 2, 3, 0] dX12_set_10 (by decide) rfl ?_
  refine tr_aload_n (i := 0) dX12_set_11 rfl ?_
  refine tr_getR 12 h0 fl_X12_9 (by decide +kernel) dX12_set_12 ?_
  refine tr_iload_n (i := 1) dX12_set_15 rfl ?_
  refine tr_iload_n (i := 2) dX12_set_16 rfl ?_
  refine tr_ast (rk_12_0 h0) dX12_set_17 (fun s3 => ?_)
  refine tr_iload_n (i := 3) dX12_set_18 rfl ?_
  exact tr_iret rfl rfl (by decide) (by decide) dX12_set_19
theorem dX12_setClass_0 : decode cX12_setClass 0 = .ok (.aload_n 0, 1) := by decide +kernel
theorem dX12_setClass_1 : decode cX12_setClass 1 = .ok (.aload_n 0, 1) := by decide +kernel
theorem dX12_setClass_2 : decode cX12_setClass 2 = .ok (.iload_n 1, 1) := by decide +kernel
theorem dX12_setClass_3 : decode cX12_setClass 3 = .ok (.invokevirtual 122, 3) := by decide +kernel
theorem dX12_setClass_6 : decode cX12_setClass 6 = .ok (.ifCond .ne 7, 3) := by decide +kernel
theorem dX12_setClass_9 : decode cX12_setClass 9 = .ok (.iconst 1, 1) := by decide +kernel
theorem dX12_setClass_10 : decode cX12_setClass 10 = .ok (.goto 28, 3) := by decide +kernel
theorem dX12_setClass_13 : decode cX12_setClass 13 = .ok (.aload_n 0, 1) := by decide +kernel
theorem dX12_setClass_14 : decode cX12_setClass 14 = .ok (.iload_n 1, 1) := by decide +kernel
theorem dX12_setClass_15 : decode cX12_setClass 15 = .ok (.invokevirtual 135, 3) := by decide +kernel
theorem dX12_setClass_18 : decode cX12_setClass 18 = .ok (.ifCond .eq 19, 3) := by decide +kernel
theorem dX12_setClass_21 : decode cX12_setClass 21 = .ok (.iload_n 2, 1) := by decide +kernel
theorem dX12_setClass_22 : decode cX12_setClass 22 = .ok (.i2l, 1) := by decide +kernel
theorem dX12_setClass_23 : decode cX12_setClass 23 = .ok (.lconst 1, 1) := by decide +kernel
theorem dX12_setClass_24 : decode cX12_setClass 24 = .ok (.ldc2_w 335, 3) := by decide +kernel
theorem dX12_setClass_27 : decode cX12_setClass 27 = .ok (.invokestatic 110, 3) := by decide +kernel
theorem dX12_setClass_30 : decode cX12_setClass 30 = .ok (.ifCond .eq 7, 3) := by decide +kernel
theorem dX12_setClass_33 : decode cX12_setClass 33 = .ok (.iconst 0, 1) := by decide +kernel
theorem dX12_setClass_34 : decode cX12_setClass 34 = .ok (.goto 4, 3) := by decide +kernel
theorem dX12_setClass_37 : decode cX12_setClass 37 = .ok (.iconst 2, 1) := by decide +kernel
theorem dX12_setClass_38 : decode cX12_setClass 38 = .ok (.putfield 107, 3) := by decide +kernel
theorem dX12_setClass_41 : decode cX12_setClass 41 = .ok (.aload_n 0, 1) := by decide +kernel
theorem dX12_setClass_42 : decode cX12_setClass 42 = .ok (.getfield 107, 3) := by decide +kernel
theorem dX12_setClass_45 : decode cX12_setClass 45 = .ok (.ifCond .eq 5, 3) := by decide +kernel
theorem dX12_setClass_48 : decode cX12_setClass 48 = .ok (.iconst 0, 1) := by decide +kernel
theorem dX12_setClass_49 : decode cX12_setClass 49 = .ok (.ireturn, 1) := by decide +kernel
theorem dX12_setClass_50 : decode cX12_setClass 50 = .ok (.aload_n 0, 1) := by decide +kernel
theorem dX12_setClass_51 : decode cX12_setClass 51 = .ok (.iload_n 1, 1) := by decide +kernel
theorem dX12_setClass_52 : decode cX12_setClass 52 = .ok (.iload_n 2, 1) := by decide +kernel
theorem dX12_setClass_53 : decode cX12_setClass 53 = .ok (.invokevirtual 316, 3) := by decide +kernel
theorem dX12_setClass_56 : decode cX12_setClass 56 = .ok (.ifCond .eq 16, 3) := by decide +kernel
theorem dX12_setClass_59 : decode cX12_setClass 59 = .ok (.aload_n 0, 1) := by decide +kernel
theorem dX12_setClass_60 : decode cX12_setClass 60 = .ok (.iload_n 1, 1) := by decide +kernel
theorem dX12_setClass_61 : decode cX12_setClass 61 = .ok (.iconst 1, 1) := by decide +kernel
theorem dX12_setClass_62 : decode cX12_setClass 62 = .ok (.invokestatic 114, 3) := by decide +kernel
theorem dX12_setClass_65 : decode cX12_setClass 65 = .ok (.iload_n 2, 1) := by decide +kernel
theorem dX12_setClass_66 : decode cX12_setClass 66 = .ok (.invokevirtual 337, 3) := by decide +kernel
theorem dX12_setClass_69 : decode cX12_setClass 69 = .ok (.goto 5, 3) := by decide +kernel
theorem dX12_setClass_72 : decode cX12_setClass 72 = .ok (.bipush (-2), 2) := by decide +kernel
theorem dX12_setClass_74 : decode cX12_setClass 74 = .ok (.ireturn, 1) := by decide +kernel
set_option maxRecDepth 100000 in
theorem t_X12_setClass_38 (G : MG) (hG : (g_l G).stackTraces = false) (d : Nat) (hd : 4 ≤ d)    (σ : MsSt) (l0 : Nat) (l1 : Int32) (l2 : Int32) (t0 : Int32) (t1 : Nat) (h0 : ms_kd l0 = 13) (ht1 : ms_kd t1 = 13) : TrO G mX12_setClass d 0 0 0 0 ms_wi 38 [(0, .ref l0), (1, .int l1), (2, .int l2)] [.int t0, .ref t1] σ (f_X12_setClass_38 σ l0 l1 l2 t0 t1) := by
  show TrO G mX12_setClass d 0 0 0 0 ms_wi 38 [(0, .ref l0), (1, .int l1), (2, .int l2)] [.int t0, .ref t1] σ (ms_nm (ms_si σ t1 7 t0) fun s3 => if (ms_i s3 l0 7) = 0 then (f_X12_mayHave s3 l0 l1 l2).bind fun v4 => if v4 = 0 then some ((-2), s3) else (f_X12_of s3 l1 1).bind fun v5 => ms_b2 (f_X12_set s3 l0 v5 l2) fun v6 s7 => some (v6, s7) else some (0, s3))
  refine tr_putI 12 ht1 fl_X12_107 (by decide +kernel) dX12_setClass_38 ?_
  refine ms_ltS (fun s3 => ?_)
  refine tr_aload_n (i := 0) dX12_setClass_41 rfl ?_
  refine tr_getI 12 h0 fl_X12_107 (by decide +kernel) dX12_setClass_42 ?_
  refine tr_ifeq (o := none) (tgt := 50) dX12_setClass_45 (by decide) ?_ ?_
  · refine tr_aload_n (i := 0) dX12_setClass_50 rfl ?_
    refine tr_iload_n (i := 1) dX12_setClass_51 rfl ?_
    refine tr_iload_n (i := 2) dX12_setClass_52 rfl ?_
    refine tr_c_i (ms_cV (rest := []) (al := [.int l1, .int l2]) 12 (sp_X12_mayHave G hG (d - 1) (by omega) s3 l0 l1 l2 h0) h0 (by decide +kernel) kl_X12_316 fv_X12_mayHave dX12_setClass_53 (show _ = some 2 by decide +kernel) (by omega) (Nat.le_of_ble_eq_true rfl) (by decide) (by decide)) (fun v4 => ?_)
    refine tr_ifeq (o := none) (tgt := 72) dX12_setClass_56 (by decide) ?_ ?_
    · refine tr_bipush (v := (-2)) dX12_setClass_72 (by decide +kernel) ?_
      exact tr_iret rfl rfl (by decide) (by decide) dX12_setClass_74
    · refine tr_aload_n (i := 0) dX12_setClass_59 rfl ?_
      refine tr_iload_n (i := 1) dX12_setClass_60 rfl ?_
      refine tr_iconst (v := 1) dX12_setClass_61 (by decide +kernel) ?_
      refine tr_c_i (ms_cS (rest := [.ref l0]) (al := [.int l1, .int 1]) (sp_X12_of G hG (d - 1) (by omega) s3 l1 1) kl_X12_114 fs_X12_of dX12_setClass_62 (show _ = some 2 by decide +kernel) (by omega) (Nat.le_of_ble_eq_true rfl) (by decide) (by decide)) (fun v5 => ?_)
      refine tr_iload_n (i := 2) dX12_setClass_65 rfl ?_
      refine tr_d_wi (ms_cV (rest := []) (al := [.int v5, .int l2]) 12 (sp_X12_set G hG (d - 1) (by omega) s3 l0 v5 l2 h0) h0 (by decide +kernel) kl_X12_337 fv_X12_set dX12_setClass_66 (show _ = some 2 by decide +kernel) (by omega) (Nat.le_of_ble_eq_true rfl) (by decide) (by decide)) (fun v6 s7 => ?_)
      refine tr_goto (tgt := 74) dX12_setClass_69 (by decide) ?_
      exact tr_iret rfl rfl (by decide) (by decide) dX12_setClass_74
  · refine tr_iconst (v := 0) dX12_setClass_48 (by decide +kernel) ?_
    exact tr_iret rfl rfl (by decide) (by decide) dX12_setClass_49
set_option maxRecDepth 100000 in
theorem t_X12_setClass_37 (G : MG) (hG : (g_l G).stackTraces = false) (d : Nat) (hd : 4 ≤ d)    (σ : MsSt) (l0 : Nat) (l1 : Int32) (l2 : Int32) (t0 : Nat) (h0 : ms_kd l0 = 13) (ht0 : ms_kd t0 = 13) : TrO G mX12_setClass d 0 0 0 0 ms_wi 37 [(0, .ref l0), (1, .int l1), (2, .int l2)] [.ref t0] σ (f_X12_setClass_37 σ l0 l1 l2 t0) := by
  show TrO G mX12_setClass d 0 0 0 0 ms_wi 37 [(0, .ref l0), (1, .int l1), (2, .int l2)] [.ref t0] σ (f_X12_setClass_38 σ l0 l1 l2 2 t0)
  refine tr_iconst (v := 2) dX12_setClass_37 (by decide +kernel) ?_
  exact t_X12_setClass_38 G hG d hd σ l0 l1 l2 2 t0 h0 ht0
set_option maxRecDepth 100000 in
theorem sp_X12_setClass (G : MG) (hG : (g_l G).stackTraces = false) (d : Nat) (hd : 4 ≤ d)   (σ : MsSt) (l0 : Nat) (l1 : Int32) (l2 : Int32) (h0 : ms_kd l0 = 13) : MsSpec G mX12_setClass d 0 0 [.ref l0, .int l1, .int l2] σ ms_wi (f_X12_setClass σ l0 l1 l2) := by
  refine ms_start (by decide +kernel) rfl rfl (Nat.le_of_ble_eq_true rfl) ?_
  show TrO G mX12_setClass d 0 0 0 0 ms_wi 0 [(0, .ref l0), (1, .int l1), (2, .int l2)] [] σ ((f_X12_isSign σ l0 l1).bind fun v1 => if v1 = 0 then f_X12_setClass_38 σ l0 l1 l2 1 l0 else (f_X12_isMark σ l0 l1).bind fun v2 => if v2 = 0 then f_X12_setClass_37 σ l0 l1 l2 l0 else (f_X12_inRange σ l2.toInt64 1 60).bind fun v8 => if v8 = 0 then f_X12_setClass_37 σ l0 l1 l2 l0 else f_X12_setClass_38 σ l0 l1 l2 0 l0)
  refine tr_aload_n (i := 0) dX12_setClass_0 rfl ?_
  refine tr_aload_n (i := 0) dX12_setClass_1 rfl ?_
  refine tr_iload_n (i := 1) dX12_setClass_2 rfl ?_
  refine tr_c_i (ms_cV (rest := [.ref l0]) (al := [.int l1]) 12 (sp_X12_isSign G hG (d - 1) (by omega) σ l0 l1 h0) h0 (by decide +kernel) kl_X12_122 fv_X12_isSign dX12_setClass_3 (show _ = some 1 by decide +kernel) (by omega) (Nat.le_of_ble_eq_true rfl) (by decide) (by decide)) (fun v1 => ?_)
  refine tr_ifne (o := none) (tgt := 13) dX12_setClass_6 (by decide) ?_ ?_
  · refine tr_aload_n (i := 0) dX12_setClass_13 rfl ?_
    refine tr_iload_n (i := 1) dX12_setClass_14 rfl ?_
    refine tr_c_i (ms_cV (rest := [.ref l0]) (al := [.int l1]) 12 (sp_X12_isMark G hG (d - 1) (by omega) σ l0 l1 h0) h0 (by decide +kernel) kl_X12_135 fv_X12_isMark dX12_setClass_15 (show _ = some 1 by decide +kernel) (by omega) (Nat.le_of_ble_eq_true rfl) (by decide) (by decide)) (fun v2 => ?_)
    refine tr_ifeq (o := none) (tgt := 37) dX12_setClass_18 (by decide) ?_ ?_
    · exact t_X12_setClass_37 G hG d hd σ l0 l1 l2 l0 h0 h0
    · refine tr_iload_n (i := 2) dX12_setClass_21 rfl ?_
      refine tr_i2l dX12_setClass_22 ?_
      refine tr_lconst (v := 1) dX12_setClass_23 (by decide +kernel) ?_
      refine tr_ldcl (v := 60) (List.mem_of_getElem? (i := 2118) (by decide +kernel)) dX12_setClass_24 ?_
      refine tr_c_i (ms_cS (rest := [.ref l0]) (al := [.long l2.toInt64, .long 1, .long 60]) (sp_X12_inRange G hG (d - 1) (by omega) σ l2.toInt64 1 60) kl_X12_110 fs_X12_inRange dX12_setClass_27 (show _ = some 3 by decide +kernel) (by omega) (Nat.le_of_ble_eq_true rfl) (by decide) (by decide)) (fun v8 => ?_)
      refine tr_ifeq (o := none) (tgt := 37) dX12_setClass_30 (by decide) ?_ ?_
      · exact t_X12_setClass_37 G hG d hd σ l0 l1 l2 l0 h0 h0
      · refine tr_iconst (v := 0) dX12_setClass_33 (by decide +kernel) ?_
        refine tr_goto (tgt := 38) dX12_setClass_34 (by decide) ?_
        exact t_X12_setClass_38 G hG d hd σ l0 l1 l2 0 l0 h0 h0
  · refine tr_iconst (v := 1) dX12_setClass_9 (by decide +kernel) ?_
    refine tr_goto (tgt := 38) dX12_setClass_10 (by decide) ?_
    exact t_X12_setClass_38 G hG d hd σ l0 l1 l2 1 l0 h0 h0
theorem dX12_setSpare_0 : decode cX12_setSpare 0 = .ok (.aload_n 0, 1) := by decide +kernel
theorem dX12_setSpare_1 : decode cX12_setSpare 1 = .ok (.aload_n 0, 1) := by decide +kernel
theorem dX12_setSpare_2 : decode cX12_setSpare 2 = .ok (.iload_n 1, 1) := by decide +kernel
theorem dX12_setSpare_3 : decode cX12_setSpare 3 = .ok (.invokevirtual 122, 3) := by decide +kernel
theorem dX12_setSpare_6 : decode cX12_setSpare 6 = .ok (.ifCond .ne 7, 3) := by decide +kernel
theorem dX12_setSpare_9 : decode cX12_setSpare 9 = .ok (.iconst 1, 1) := by decide +kernel
theorem dX12_setSpare_10 : decode cX12_setSpare 10 = .ok (.goto 17, 3) := by decide +kernel
theorem dX12_setSpare_13 : decode cX12_setSpare 13 = .ok (.aload_n 0, 1) := by decide +kernel
theorem dX12_setSpare_14 : decode cX12_setSpare 14 = .ok (.iload_n 1, 1) := by decide +kernel
theorem dX12_setSpare_15 : decode cX12_setSpare 15 = .ok (.iconst 2, 1) := by decide +kernel
theorem dX12_setSpare_16 : decode cX12_setSpare 16 = .ok (.invokevirtual 128, 3) := by decide +kernel
theorem dX12_setSpare_19 : decode cX12_setSpare 19 = .ok (.ifCond .eq 7, 3) := by decide +kernel
theorem dX12_setSpare_22 : decode cX12_setSpare 22 = .ok (.iconst 0, 1) := by decide +kernel
theorem dX12_setSpare_23 : decode cX12_setSpare 23 = .ok (.goto 4, 3) := by decide +kernel
theorem dX12_setSpare_26 : decode cX12_setSpare 26 = .ok (.iconst 2, 1) := by decide +kernel
theorem dX12_setSpare_27 : decode cX12_setSpare 27 = .ok (.putfield 107, 3) := by decide +kernel
theorem dX12_setSpare_30 : decode cX12_setSpare 30 = .ok (.aload_n 0, 1) := by decide +kernel
theorem dX12_setSpare_31 : decode cX12_setSpare 31 = .ok (.getfield 107, 3) := by decide +kernel
theorem dX12_setSpare_34 : decode cX12_setSpare 34 = .ok (.ifCond .ne 24, 3) := by decide +kernel
theorem dX12_setSpare_37 : decode cX12_setSpare 37 = .ok (.aload_n 0, 1) := by decide +kernel
theorem dX12_setSpare_38 : decode cX12_setSpare 38 = .ok (.iload_n 1, 1) := by decide +kernel
theorem dX12_setSpare_39 : decode cX12_setSpare 39 = .ok (.iconst 5, 1) := by decide +kernel
theorem dX12_setSpare_40 : decode cX12_setSpare 40 = .ok (.invokestatic 114, 3) := by decide +kernel
theorem dX12_setSpare_43 : decode cX12_setSpare 43 = .ok (.iload_n 2, 1) := by decide +kernel
theorem dX12_setSpare_44 : decode cX12_setSpare 44 = .ok (.ifCond .eq 7, 3) := by decide +kernel
theorem dX12_setSpare_47 : decode cX12_setSpare 47 = .ok (.iconst 1, 1) := by decide +kernel
theorem dX12_setSpare_48 : decode cX12_setSpare 48 = .ok (.goto 4, 3) := by decide +kernel
theorem dX12_setSpare_51 : decode cX12_setSpare 51 = .ok (.iconst 0, 1) := by decide +kernel
theorem dX12_setSpare_52 : decode cX12_setSpare 52 = .ok (.invokevirtual 337, 3) := by decide +kernel
theorem dX12_setSpare_55 : decode cX12_setSpare 55 = .ok (.goto 4, 3) := by decide +kernel
theorem dX12_setSpare_58 : decode cX12_setSpare 58 = .ok (.iconst 0, 1) := by decide +kernel
theorem dX12_setSpare_59 : decode cX12_setSpare 59 = .ok (.ireturn, 1) := by decide +kernel
set_option maxRecDepth 100000 in
theorem t_X12_setSpare_27 (G : MG) (hG : (g_l G).stackTraces = false) (d : Nat) (hd : 3 ≤ d)    (σ : MsSt) (l0 : Nat) (l1 : Int32) (l2 : Int32) (t0 : Int32) (t1 : Nat) (h0 : ms_kd l0 = 13) (ht1 : ms_kd t1 = 13) : TrO G mX12_setSpare d 0 0 0 0 ms_wi 27 [(0, .ref l0), (1, .int l1), (2, .int l2)] [.int t0, .ref t1] σ (f_X12_setSpare_27 σ l0 l1 l2 t0 t1) := by
  show TrO G mX12_setSpare d 0 0 0 0 ms_wi 27 [(0, .ref l0), (1, .int l1), (2, .int l2)] [.int t0, .ref t1] σ (ms_nm (ms_si σ t1 7 t0) fun s3 => if (ms_i s3 l0 7) = 0 then (f_X12_of s3 l1 5).bind fun v4 => if l2 = 0 then ms_b2 (f_X12_set s3 l0 v4 0) fun v5 s6 => some (v5, s6) else ms_b2 (f_X12_set s3 l0 v4 1) fun v7 s8 => some (v7, s8) else some (0, s3))
  refine tr_putI 12 ht1 fl_X12_107 (by decide +kernel) dX12_setSpare_27 ?_
  refine ms_ltS (fun s3 => ?_)
  refine tr_aload_n (i := 0) dX12_setSpare_30 rfl ?_
  refine tr_getI 12 h0 fl_X12_107 (by decide +kernel) dX12_setSpare_31 ?_
  refine tr_ifne (o := none) (tgt := 58) dX12_setSpare_34 (by decide) ?_ ?_
  · refine tr_iconst (v := 0) dX12_setSpare_58 (by decide +kernel) ?_
    exact tr_iret rfl rfl (by decide) (by decide) dX12_setSpare_59
  · refine tr_aload_n (i := 0) dX12_setSpare_37 rfl ?_
    refine tr_iload_n (i := 1) dX12_setSpare_38 rfl ?_
    refine tr_iconst (v := 5) dX12_setSpare_39 (by decide +kernel) ?_
    refine tr_c_i (ms_cS (rest := [.ref l0]) (al := [.int l1, .int 5]) (sp_X12_of G hG (d - 1) (by omega) s3 l1 5) kl_X12_114 fs_X12_of dX12_setSpare_40 (show _ = some 2 by decide +kernel) (by omega) (Nat.le_of_ble_eq_true rfl) (by decide) (by decide)) (fun v4 => ?_)
    refine tr_iload_n (i := 2) dX12_setSpare_43 rfl ?_
    refine tr_ifeq (o := none) (tgt := 51) dX12_setSpare_44 (by decide) ?_ ?_
    · refine tr_iconst (v := 0) dX12_setSpare_51 (by decide +kernel) ?_
      refine tr_d_wi (ms_cV (rest := []) (al := [.int v4, .int 0]) 12 (sp_X12_set G hG (d - 1) (by omega) s3 l0 v4 0 h0) h0 (by decide +kernel) kl_X12_337 fv_X12_set dX12_setSpare_52 (show _ = some 2 by decide +kernel) (by omega) (Nat.le_of_ble_eq_true rfl) (by decide) (by decide)) (fun v5 s6 => ?_)
      refine tr_goto (tgt := 59) dX12_setSpare_55 (by decide) ?_
      exact tr_iret rfl rfl (by decide) (by decide) dX12_setSpare_59
    · refine tr_iconst (v := 1) dX12_setSpare_47 (by decide +kernel) ?_
      refine tr_goto (tgt := 52) dX12_setSpare_48 (by decide) ?_
      refine tr_d_wi (ms_cV (rest := []) (al := [.int v4, .int 1]) 12 (sp_X12_set G hG (d - 1) (by omega) s3 l0 v4 1 h0) h0 (by decide +kernel) kl_X12_337 fv_X12_set dX12_setSpare_52 (show _ = some 2 by decide +kernel) (by omega) (Nat.le_of_ble_eq_true rfl) (by decide) (by decide)) (fun v7 s8 => ?_)
      refine tr_goto (tgt := 59) dX12_setSpare_55 (by decide) ?_
      exact tr_iret rfl rfl (by decide) (by decide) dX12_setSpare_59
set_option maxRecDepth 100000 in
theorem sp_X12_setSpare (G : MG) (hG : (g_l G).stackTraces = false) (d : Nat) (hd : 3 ≤ d)   (σ : MsSt) (l0 : Nat) (l1 : Int32) (l2 : Int32) (h0 : ms_kd l0 = 13) : MsSpec G mX12_setSpare d 0 0 [.ref l0, .int l1, .int l2] σ ms_wi (f_X12_setSpare σ l0 l1 l2) := by
  refine ms_start (by decide +kernel) rfl rfl (Nat.le_of_ble_eq_true rfl) ?_
  show TrO G mX12_setSpare d 0 0 0 0 ms_wi 0 [(0, .ref l0), (1, .int l1), (2, .int l2)] [] σ ((f_X12_isSign σ l0 l1).bind fun v1 => if v1 = 0 then f_X12_setSpare_27 σ l0 l1 l2 1 l0 else (f_X12_isOfKind σ l0 l1 2).bind fun v2 => if v2 = 0 then f_X12_setSpare_27 σ l0 l1 l2 2 l0 else f_X12_setSpare_27 σ l0 l1 l2 0 l0)
  refine tr_aload_n (i := 0) dX12_setSpare_0 rfl ?_
  refine tr_aload_n (i := 0) dX12_setSpare_1 rfl ?_
  refine tr_iload_n (i := 1) dX12_setSpare_2 rfl ?_
  refine tr_c_i (ms_cV (rest := [.ref l0]) (al := [.int l1]) 12 (sp_X12_isSign G hG (d - 1) (by omega) σ l0 l1 h0) h0 (by decide +kernel) kl_X12_122 fv_X12_isSign dX12_setSpare_3 (show _ = some 1 by decide +kernel) (by omega) (Nat.le_of_ble_eq_true rfl) (by decide) (by decide)) (fun v1 => ?_)
  refine tr_ifne (o := none) (tgt := 13) dX12_setSpare_6 (by decide) ?_ ?_
  · refine tr_aload_n (i := 0) dX12_setSpare_13 rfl ?_
    refine tr_iload_n (i := 1) dX12_setSpare_14 rfl ?_
    refine tr_iconst (v := 2) dX12_setSpare_15 (by decide +kernel) ?_
    refine tr_c_i (ms_cV (rest := [.ref l0]) (al := [.int l1, .int 2]) 12 (sp_X12_isOfKind G hG (d - 1) (by omega) σ l0 l1 2 h0) h0 (by decide +kernel) kl_X12_128 fv_X12_isOfKind dX12_setSpare_16 (show _ = some 2 by decide +kernel) (by omega) (Nat.le_of_ble_eq_true rfl) (by decide) (by decide)) (fun v2 => ?_)
    refine tr_ifeq (o := none) (tgt := 26) dX12_setSpare_19 (by decide) ?_ ?_
    · refine tr_iconst (v := 2) dX12_setSpare_26 (by decide +kernel) ?_
      exact t_X12_setSpare_27 G hG d hd σ l0 l1 l2 2 l0 h0 h0
    · refine tr_iconst (v := 0) dX12_setSpare_22 (by decide +kernel) ?_
      refine tr_goto (tgt := 27) dX12_setSpare_23 (by decide) ?_
      exact t_X12_setSpare_27 G hG d hd σ l0 l1 l2 0 l0 h0 h0
  · refine tr_iconst (v := 1) dX12_setSpare_9 (by decide +kernel) ?_
    refine tr_goto (tgt := 27) dX12_setSpare_10 (by decide) ?_
    exact t_X12_setSpare_27 G hG d hd σ l0 l1 l2 1 l0 h0 h0
theorem dX12_put_0 : decode cX12_put 0 = .ok (.aload_n 0, 1) := by decide +kernel
theorem dX12_put_1 : decode cX12_put 1 = .ok (.getfield 59, 3) := by decide +kernel
theorem dX12_put_4 : decode cX12_put 4 = .ok (.aload_n 0, 1) := by decide +kernel
theorem dX12_put_5 : decode cX12_put 5 = .ok (.getfield 340, 3) := by decide +kernel
theorem dX12_put_8 : decode cX12_put 8 = .ok (.iload_n 1, 1) := by decide +kernel
theorem dX12_put_9 : decode cX12_put 9 = .ok (.iastore, 1) := by decide +kernel
theorem dX12_put_10 : decode cX12_put 10 = .ok (.aload_n 0, 1) := by decide +kernel
theorem dX12_put_11 : decode cX12_put 11 = .ok (.dup, 1) := by decide +kernel
theorem dX12_put_12 : decode cX12_put 12 = .ok (.getfield 340, 3) := by decide +kernel
theorem dX12_put_15 : decode cX12_put 15 = .ok (.iconst 1, 1) := by decide +kernel
theorem dX12_put_16 : decode cX12_put 16 = .ok (.iadd, 1) := by decide +kernel
theorem dX12_put_17 : decode cX12_put 17 = .ok (.putfield 340, 3) := by decide +kernel
theorem dX12_put_20 : decode cX12_put 20 = .ok (.return_, 1) := by decide +kernel
set_option maxRecDepth 100000 in
theorem sp_X12_put (G : MG) (hG : (g_l G).stackTraces = false) (d : Nat) (hd : 0 ≤ d)   (σ : MsSt) (l0 : Nat) (l1 : Int32) (h0 : ms_kd l0 = 13) : MsSpec G mX12_put d 0 0 [.ref l0, .int l1] σ ms_wv (f_X12_put σ l0 l1) := by
  refine ms_start (by decide +kernel) rfl rfl (Nat.le_of_ble_eq_true rfl) ?_
  show TrO G mX12_put d 0 0 0 0 ms_wv 0 [(0, .ref l0), (1, .int l1)] [] σ ((ms_ast σ (ms_rf l0 24) (ms_i σ l0 25) l1).bind fun s1 => ms_nm (ms_si s1 l0 25 ((ms_i s1 l0 25) + 1)) fun s2 => some s2)
  refine tr_aload_n (i := 0) dX12_put_0 rfl ?_
  refine tr_getR 12 h0 fl_X12_59 (by decide +kernel) dX12_put_1 ?_
  refine tr_aload_n (i := 0) dX12_put_4 rfl ?_
  refine tr_getI 12 h0 fl_X12_340 (by decide +kernel) dX12_put_5 ?_
  refine tr_iload_n (i := 1) dX12_put_8 rfl ?_
  refine tr_ast (rk_12_24 h0) dX12_put_9 (fun s1 => ?_)
  refine tr_aload_n (i := 0) dX12_put_10 rfl ?_
  refine tr_dup dX12_put_11 rfl ?_
  refine tr_getI 12 h0 fl_X12_340 (by decide +kernel) dX12_put_12 ?_
  refine tr_iconst (v := 1) dX12_put_15 (by decide +kernel) ?_
  refine tr_iadd dX12_put_16 ?_
  refine tr_putI 12 h0 fl_X12_340 (by decide +kernel) dX12_put_17 ?_
  refine ms_ltS (fun s2 => ?_)
  exact tr_vret rfl rfl (by decide) (by decide) dX12_put_20
theorem dX12_putSign_0 : decode cX12_putSign 0 = .ok (.aload_n 0, 1) := by decide +kernel
theorem dX12_putSign_1 : decode cX12_putSign 1 = .ok (.iload_n 1, 1) := by decide +kernel
theorem dX12_putSign_2 : decode cX12_putSign 2 = .ok (.iconst 0, 1) := by decide +kernel
theorem dX12_putSign_3 : decode cX12_putSign 3 = .ok (.invokevirtual 128, 3) := by decide +kernel
theorem dX12_putSign_6 : decode cX12_putSign 6 = .ok (.ifCond .ne 22, 3) := by decide +kernel
theorem dX12_putSign_9 : decode cX12_putSign 9 = .ok (.aload_n 0, 1) := by decide +kernel
theorem dX12_putSign_10 : decode cX12_putSign 10 = .ok (.aload_n 0, 1) := by decide +kernel
theorem dX12_putSign_11 : decode cX12_putSign 11 = .ok (.iload_n 1, 1) := by decide +kernel
theorem dX12_putSign_12 : decode cX12_putSign 12 = .ok (.invokevirtual 135, 3) := by decide +kernel
theorem dX12_putSign_15 : decode cX12_putSign 15 = .ok (.ifCond .eq 8, 3) := by decide +kernel
theorem dX12_putSign_18 : decode cX12_putSign 18 = .ok (.bipush 43, 2) := by decide +kernel
theorem dX12_putSign_20 : decode cX12_putSign 20 = .ok (.goto 5, 3) := by decide +kernel
theorem dX12_putSign_23 : decode cX12_putSign 23 = .ok (.bipush 42, 2) := by decide +kernel
theorem dX12_putSign_25 : decode cX12_putSign 25 = .ok (.invokevirtual 343, 3) := by decide +kernel
theorem dX12_putSign_28 : decode cX12_putSign 28 = .ok (.iconst 0, 1) := by decide +kernel
theorem dX12_putSign_29 : decode cX12_putSign 29 = .ok (.istore_n 2, 1) := by decide +kernel
theorem dX12_putSign_30 : decode cX12_putSign 30 = .ok (.iload_n 2, 1) := by decide +kernel
theorem dX12_putSign_31 : decode cX12_putSign 31 = .ok (.iconst 4, 1) := by decide +kernel
theorem dX12_putSign_32 : decode cX12_putSign 32 = .ok (.if_icmp .ge 36, 3) := by decide +kernel
theorem dX12_putSign_35 : decode cX12_putSign 35 = .ok (.aload_n 0, 1) := by decide +kernel
theorem dX12_putSign_36 : decode cX12_putSign 36 = .ok (.getfield 22, 3) := by decide +kernel
theorem dX12_putSign_39 : decode cX12_putSign 39 = .ok (.iconst 4, 1) := by decide +kernel
theorem dX12_putSign_40 : decode cX12_putSign 40 = .ok (.iload_n 1, 1) := by decide +kernel
theorem dX12_putSign_41 : decode cX12_putSign 41 = .ok (.imul, 1) := by decide +kernel
theorem dX12_putSign_42 : decode cX12_putSign 42 = .ok (.iload_n 2, 1) := by decide +kernel
theorem dX12_putSign_43 : decode cX12_putSign 43 = .ok (.iadd, 1) := by decide +kernel
theorem dX12_putSign_44 : decode cX12_putSign 44 = .ok (.iaload, 1) := by decide +kernel
theorem dX12_putSign_45 : decode cX12_putSign 45 = .ok (.ifCond .eq 23, 3) := by decide +kernel
theorem dX12_putSign_48 : decode cX12_putSign 48 = .ok (.aload_n 0, 1) := by decide +kernel
theorem dX12_putSign_49 : decode cX12_putSign 49 = .ok (.aload_n 0, 1) := by decide +kernel
theorem dX12_putSign_50 : decode cX12_putSign 50 = .ok (.getfield 22, 3) := by decide +kernel
theorem dX12_putSign_53 : decode cX12_putSign 53 = .ok (.iconst 4, 1) := by decide +kernel
theorem dX12_putSign_54 : decode cX12_putSign 54 = .ok (.iload_n 1, 1) := by decide +kernel
theorem dX12_putSign_55 : decode cX12_putSign 55 = .ok (.imul, 1) := by decide +kernel
theorem dX12_putSign_56 : decode cX12_putSign 56 = .ok (.iload_n 2, 1) := by decide +kernel
theorem dX12_putSign_57 : decode cX12_putSign 57 = .ok (.iadd, 1) := by decide +kernel
theorem dX12_putSign_58 : decode cX12_putSign 58 = .ok (.iaload, 1) := by decide +kernel
theorem dX12_putSign_59 : decode cX12_putSign 59 = .ok (.invokevirtual 343, 3) := by decide +kernel
theorem dX12_putSign_62 : decode cX12_putSign 62 = .ok (.iinc 2 1, 3) := by decide +kernel
theorem dX12_putSign_65 : decode cX12_putSign 65 = .ok (.goto (-35), 3) := by decide +kernel
theorem dX12_putSign_68 : decode cX12_putSign 68 = .ok (.return_, 1) := by decide +kernel
set_option maxRecDepth 100000 in
theorem t_X12_putSign_30 (G : MG) (hG : (g_l G).stackTraces = false) (d : Nat) (hd : 3 ≤ d)    : ∀ (n : Nat) (σ : MsSt) (l0 : Nat) (l1 : Int32) (l2 : Int32) (h0 : ms_kd l0 = 13), TrO G mX12_putSign d 0 0 0 0 ms_wv 30 [(0, .ref l0), (1, .int l1), (2, .int l2)] [] σ (f_X12_putSign_30 n σ l0 l1 l2) := by
  intro n
  induction n with
  | zero => exact fun _ _ _ _ _ => tr_none
  | succ n ih =>
    intro σ l0 l1 l2 h0
    show TrO G mX12_putSign d 0 0 0 0 ms_wv 30 [(0, .ref l0), (1, .int l1), (2, .int l2)] [] σ (if l2 < 4 then (ms_ald σ (ms_rf l0 4) ((4 * l1) + l2)).bind fun v2 => if v2 = 0 then some σ else (ms_ald σ (ms_rf l0 4) ((4 * l1) + l2)).bind fun v3 => (f_X12_put σ l0 v3).bind fun s4 => (f_X12_putSign_30 n) s4 l0 l1 (l2 + 1) else some σ)
    refine tr_iload_n (i := 2) dX12_putSign_30 rfl ?_
    refine tr_iconst (v := 4) dX12_putSign_31 (by decide +kernel) ?_
    refine tr_icge (o := none) (tgt := 68) dX12_putSign_32 (by decide) ?_ ?_
    · exact tr_vret rfl rfl (by decide) (by decide) dX12_putSign_68
    · refine tr_aload_n (i := 0) dX12_putSign_35 rfl ?_
      refine tr_getR 12 h0 fl_X12_22 (by decide +kernel) dX12_putSign_36 ?_
      refine tr_iconst (v := 4) dX12_putSign_39 (by decide +kernel) ?_
      refine tr_iload_n (i := 1) dX12_putSign_40 rfl ?_
      refine tr_imul dX12_putSign_41 ?_
      refine tr_iload_n (i := 2) dX12_putSign_42 rfl ?_
      refine tr_iadd dX12_putSign_43 ?_
      refine tr_ald (rk_12_4 h0) dX12_putSign_44 (fun v2 => ?_)
      refine tr_ifeq (o := none) (tgt := 68) dX12_putSign_45 (by decide) ?_ ?_
      · exact tr_vret rfl rfl (by decide) (by decide) dX12_putSign_68
      · refine tr_aload_n (i := 0) dX12_putSign_48 rfl ?_
        refine tr_aload_n (i := 0) dX12_putSign_49 rfl ?_
        refine tr_getR 12 h0 fl_X12_22 (by decide +kernel) dX12_putSign_50 ?_
        refine tr_iconst (v := 4) dX12_putSign_53 (by decide +kernel) ?_
        refine tr_iload_n (i := 1) dX12_putSign_54 rfl ?_
        refine tr_imul dX12_putSign_55 ?_
        refine tr_iload_n (i := 2) dX12_putSign_56 rfl ?_
        refine tr_iadd dX12_putSign_57 ?_
        refine tr_ald (rk_12_4 h0) dX12_putSign_58 (fun v3 => ?_)
        refine tr_c_wv (ms_cV (rest := []) (al := [.int v3]) 12 (sp_X12_put G hG (d - 1) (by omega) σ l0 v3 h0) h0 (by decide +kernel) kl_X12_343 fv_X12_put dX12_putSign_59 (show _ = some 1 by decide +kernel) (by omega) (Nat.le_of_ble_eq_true rfl) (by decide) (by decide)) (fun s4 => ?_)
        refine tr_iinc (k := 2) (v := (l2 + 1)) (lv' := [(0, .ref l0), (1, .int l1), (2, .int (l2 + 1))]) [1, 2, 0] dX12_putSign_62 rfl rfl (by decide) rfl ?_
        refine tr_goto (tgt := 30) dX12_putSign_65 (by decide) ?_
        exact (fun s y0 y1 y2 g0 => ih s y0 y1 y2 g0) s4 l0 l1 (l2 + 1) h0
set_option maxRecDepth 100000 in
theorem sp_X12_putSign (G : MG) (hG : (g_l G).stackTraces = false) (d : Nat) (hd : 3 ≤ d)   (σ : MsSt) (l0 : Nat) (l1 : Int32) (h0 : ms_kd l0 = 13) : MsSpec G mX12_putSign d 0 0 [.ref l0, .int l1] σ ms_wv (f_X12_putSign σ l0 l1) := by
  refine ms_start (by decide +kernel) rfl rfl (Nat.le_of_ble_eq_true rfl) ?_
  show TrO G mX12_putSign d 0 0 0 0 ms_wv 0 [(0, .ref l0), (1, .int l1)] [] σ ((f_X12_isOfKind σ l0 l1 0).bind fun v1 => if v1 = 0 then (f_X12_isMark σ l0 l1).bind fun v5 => if v5 = 0 then (f_X12_put σ l0 42).bind fun s6 => f_X12_putSign_30 ms_fuel s6 l0 l1 0 else (f_X12_put σ l0 43).bind fun s7 => f_X12_putSign_30 ms_fuel s7 l0 l1 0 else f_X12_putSign_30 ms_fuel σ l0 l1 0)
  refine tr_aload_n (i := 0) dX12_putSign_0 rfl ?_
  refine tr_iload_n (i := 1) dX12_putSign_1 rfl ?_
  refine tr_iconst (v := 0) dX12_putSign_2 (by decide +kernel) ?_
  refine tr_c_i (ms_cV (rest := []) (al := [.int l1, .int 0]) 12 (sp_X12_isOfKind G hG (d - 1) (by omega) σ l0 l1 0 h0) h0 (by decide +kernel) kl_X12_128 fv_X12_isOfKind dX12_putSign_3 (show _ = some 2 by decide +kernel) (by omega) (Nat.le_of_ble_eq_true rfl) (by decide) (by decide)) (fun v1 => ?_)
  refine tr_ifne (o := none) (tgt := 28) dX12_putSign_6 (by decide) ?_ ?_
  · refine tr_iconst (v := 0) dX12_putSign_28 (by decide +kernel) ?_
    refine tr_istore_n (lv' := [(0, .ref l0), (1, .int l1), (2, .int 0)]) [1, 2, 0] dX12_putSign_29 (by decide) rfl ?_
    exact t_X12_putSign_30 G hG d hd ms_fuel σ l0 l1 0 h0
  · refine tr_aload_n (i := 0) dX12_putSign_9 rfl ?_
    refine tr_aload_n (i := 0) dX12_putSign_10 rfl ?_
    refine tr_iload_n (i := 1) dX12_putSign_11 rfl ?_
    refine tr_c_i (ms_cV (rest := [.ref l0]) (al := [.int l1]) 12 (sp_X12_isMark G hG (d - 1) (by omega) σ l0 l1 h0) h0 (by decide +kernel) kl_X12_135 fv_X12_isMark dX12_putSign_12 (show _ = some 1 by decide +kernel) (by omega) (Nat.le_of_ble_eq_true rfl) (by decide) (by decide)) (fun v5 => ?_)
    refine tr_ifeq (o := none) (tgt := 23) dX12_putSign_15 (by decide) ?_ ?_
    · refine tr_bipush (v := 42) dX12_putSign_23 (by decide +kernel) ?_
      refine tr_c_wv (ms_cV (rest := []) (al := [.int 42]) 12 (sp_X12_put G hG (d - 1) (by omega) σ l0 42 h0) h0 (by decide +kernel) kl_X12_343 fv_X12_put dX12_putSign_25 (show _ = some 1 by decide +kernel) (by omega) (Nat.le_of_ble_eq_true rfl) (by decide) (by decide)) (fun s6 => ?_)
      refine tr_iconst (v := 0) dX12_putSign_28 (by decide +kernel) ?_
      refine tr_istore_n (lv' := [(0, .ref l0), (1, .int l1), (2, .int 0)]) [1, 2, 0] dX12_putSign_29 (by decide) rfl ?_
      exact t_X12_putSign_30 G hG d hd ms_fuel s6 l0 l1 0 h0
    · refine tr_bipush (v := 43) dX12_putSign_18 (by decide +kernel) ?_
      refine tr_goto (tgt := 25) dX12_putSign_20 (by decide) ?_
      refine tr_c_wv (ms_cV (rest := []) (al := [.int 43]) 12 (sp_X12_put G hG (d - 1) (by omega) σ l0 43 h0) h0 (by decide +kernel) kl_X12_343 fv_X12_put dX12_putSign_25 (show _ = some 1 by decide +kernel) (by omega) (Nat.le_of_ble_eq_true rfl) (by decide) (by decide)) (fun s7 => ?_)
      refine tr_iconst (v := 0) dX12_putSign_28 (by decide +kernel) ?_
      refine tr_istore_n (lv' := [(0, .ref l0), (1, .int l1), (2, .int 0)]) [1, 2, 0] dX12_putSign_29 (by decide) rfl ?_
      exact t_X12_putSign_30 G hG d hd ms_fuel s7 l0 l1 0 h0
