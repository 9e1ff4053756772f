/-! X9: the bytecode does what the functions say (by program: wip/whole/gen) -/
theorem dX9_byteAt_0 : decode cX9_byteAt 0 = .ok (.iload_n 1, 1) := by decide +kernel
theorem dX9_byteAt_1 : decode cX9_byteAt 1 = .ok (.ifCond .lt 21, 3) := by decide +kernel
theorem dX9_byteAt_4 : decode cX9_byteAt 4 = .ok (.iload_n 1, 1) := by decide +kernel
theorem dX9_byteAt_5 : decode cX9_byteAt 5 = .ok (.aload_n 0, 1) := by decide +kernel
theorem dX9_byteAt_6 : decode cX9_byteAt 6 = .ok (.getfield 9, 3) := by decide +kernel
theorem dX9_byteAt_9 : decode cX9_byteAt 9 = .ok (.arraylength, 1) := by decide +kernel
theorem dX9_byteAt_10 : decode cX9_byteAt 10 = .ok (.if_icmp .ge 12, 3) := by decide +kernel
theorem dX9_byteAt_13 : decode cX9_byteAt 13 = .ok (.aload_n 0, 1) := by decide +kernel
theorem dX9_byteAt_14 : decode cX9_byteAt 14 = .ok (.getfield 9, 3) := by decide +kernel
theorem dX9_byteAt_17 : decode cX9_byteAt 17 = .ok (.iload_n 1, 1) := by decide +kernel
theorem dX9_byteAt_18 : decode cX9_byteAt 18 = .ok (.baload, 1) := by decide +kernel
theorem dX9_byteAt_19 : decode cX9_byteAt 19 = .ok (.goto 4, 3) := by decide +kernel
theorem dX9_byteAt_22 : decode cX9_byteAt 22 = .ok (.iconst 0, 1) := by decide +kernel
theorem dX9_byteAt_23 : decode cX9_byteAt 23 = .ok (.ireturn, 1) := by decide +kernel
set_option maxRecDepth 100000 in
theorem sp_X9_byteAt (G : MG) (hG : (g_l G).stackTraces = false) (d : Nat) (hd : 0 ≤ d)   (σ : MsSt) (l0 : Nat) (l1 : Int32) (h0 : ms_kd l0 = 10) : MsSpec G mX9_byteAt d 0 0 [.ref l0, .int l1] σ (ms_ki σ) (f_X9_byteAt σ l0 l1) := by
  refine ms_start (by decide +kernel) rfl rfl (Nat.le_of_ble_eq_true rfl) ?_
  show TrO G mX9_byteAt d 0 0 0 0 (ms_ki σ) 0 [(0, .ref l0), (1, .int l1)] [] σ (if l1 < 0 then some 0 else if l1 < (Int32.ofNat (ms_ln (ms_rf l0 0))) then (ms_ald σ (ms_rf l0 0) l1).bind fun v1 => some v1 else some 0)
  refine tr_iload_n (i := 1) dX9_byteAt_0 rfl ?_
  refine tr_iflt (o := none) (tgt := 22) dX9_byteAt_1 (by decide) ?_ ?_
  · refine tr_iconst (v := 0) dX9_byteAt_22 (by decide +kernel) ?_
    exact tr_iret rfl rfl (by decide) (by decide) dX9_byteAt_23
  · refine tr_iload_n (i := 1) dX9_byteAt_4 rfl ?_
    refine tr_aload_n (i := 0) dX9_byteAt_5 rfl ?_
    refine tr_getR 9 h0 fl_X9_9 (by decide +kernel) dX9_byteAt_6 ?_
    refine tr_len 1 (rk_9_0 h0) (by decide) dX9_byteAt_9 ?_
    refine tr_icge (o := none) (tgt := 22) dX9_byteAt_10 (by decide) ?_ ?_
    · refine tr_iconst (v := 0) dX9_byteAt_22 (by decide +kernel) ?_
      exact tr_iret rfl rfl (by decide) (by decide) dX9_byteAt_23
    · refine tr_aload_n (i := 0) dX9_byteAt_13 rfl ?_
      refine tr_getR 9 h0 fl_X9_9 (by decide +kernel) dX9_byteAt_14 ?_
      refine tr_iload_n (i := 1) dX9_byteAt_17 rfl ?_
      refine tr_bld (rk_9_0 h0) dX9_byteAt_18 (fun v1 => ?_)
      refine tr_goto (tgt := 23) dX9_byteAt_19 (by decide) ?_
      exact tr_iret rfl rfl (by decide) (by decide) dX9_byteAt_23
theorem dX9_isSeparator_0 : decode cX9_isSeparator 0 = .ok (.iload_n 0, 1) := by decide +kernel
theorem dX9_isSeparator_1 : decode cX9_isSeparator 1 = .ok (.bipush 32, 2) := by decide +kernel
theorem dX9_isSeparator_3 : decode cX9_isSeparator 3 = .ok (.if_icmp .eq 9, 3) := by decide +kernel
theorem dX9_isSeparator_6 : decode cX9_isSeparator 6 = .ok (.iload_n 0, 1) := by decide +kernel
theorem dX9_isSeparator_7 : decode cX9_isSeparator 7 = .ok (.bipush 10, 2) := by decide +kernel
theorem dX9_isSeparator_9 : decode cX9_isSeparator 9 = .ok (.if_icmp .ne 7, 3) := by decide +kernel
theorem dX9_isSeparator_12 : decode cX9_isSeparator 12 = .ok (.iconst 1, 1) := by decide +kernel
theorem dX9_isSeparator_13 : decode cX9_isSeparator 13 = .ok (.goto 4, 3) := by decide +kernel
theorem dX9_isSeparator_16 : decode cX9_isSeparator 16 = .ok (.iconst 0, 1) := by decide +kernel
theorem dX9_isSeparator_17 : decode cX9_isSeparator 17 = .ok (.ireturn, 1) := by decide +kernel
set_option maxRecDepth 100000 in
theorem sp_X9_isSeparator (G : MG) (hG : (g_l G).stackTraces = false) (d : Nat) (hd : 0 ≤ d)   (σ : MsSt) (l0 : Int32) : MsSpec G mX9_isSeparator d 0 0 [.int l0] σ (ms_ki σ) (f_X9_isSeparator σ l0) := by
  refine ms_start (by decide +kernel) rfl rfl (Nat.le_of_ble_eq_true rfl) ?_
  show TrO G mX9_isSeparator d 0 0 0 0 (ms_ki σ) 0 [(0, .int l0)] [] σ (if l0 = 32 then some 1 else if l0 = 10 then some 1 else some 0)
  refine tr_iload_n (i := 0) dX9_isSeparator_0 rfl ?_
  refine tr_bipush (v := 32) dX9_isSeparator_1 (by decide +kernel) ?_
  refine tr_iceq (o := none) (tgt := 12) dX9_isSeparator_3 (by decide) ?_ ?_
  · refine tr_iconst (v := 1) dX9_isSeparator_12 (by decide +kernel) ?_
    refine tr_goto (tgt := 17) dX9_isSeparator_13 (by decide) ?_
    exact tr_zret rfl (by decide +kernel) rfl (by decide) (by decide) dX9_isSeparator_17
  · refine tr_iload_n (i := 0) dX9_isSeparator_6 rfl ?_
    refine tr_bipush (v := 10) dX9_isSeparator_7 (by decide +kernel) ?_
    refine tr_icne (o := none) (tgt := 16) dX9_isSeparator_9 (by decide) ?_ ?_
    · refine tr_iconst (v := 0) dX9_isSeparator_16 (by decide +kernel) ?_
      exact tr_zret rfl (by decide +kernel) rfl (by decide) (by decide) dX9_isSeparator_17
    · refine tr_iconst (v := 1) dX9_isSeparator_12 (by decide +kernel) ?_
      refine tr_goto (tgt := 17) dX9_isSeparator_13 (by decide) ?_
      exact tr_zret rfl (by decide +kernel) rfl (by decide) (by decide) dX9_isSeparator_17
theorem dX9_isLetter_0 : decode cX9_isLetter 0 = .ok (.iload_n 0, 1) := by decide +kernel
theorem dX9_isLetter_1 : decode cX9_isLetter 1 = .ok (.bipush 97, 2) := by decide +kernel
theorem dX9_isLetter_3 : decode cX9_isLetter 3 = .ok (.if_icmp .lt 13, 3) := by decide +kernel
theorem dX9_isLetter_6 : decode cX9_isLetter 6 = .ok (.iload_n 0, 1) := by decide +kernel
theorem dX9_isLetter_7 : decode cX9_isLetter 7 = .ok (.bipush 122, 2) := by decide +kernel
theorem dX9_isLetter_9 : decode cX9_isLetter 9 = .ok (.if_icmp .gt 7, 3) := by decide +kernel
theorem dX9_isLetter_12 : decode cX9_isLetter 12 = .ok (.iconst 1, 1) := by decide +kernel
theorem dX9_isLetter_13 : decode cX9_isLetter 13 = .ok (.goto 4, 3) := by decide +kernel
theorem dX9_isLetter_16 : decode cX9_isLetter 16 = .ok (.iconst 0, 1) := by decide +kernel
theorem dX9_isLetter_17 : decode cX9_isLetter 17 = .ok (.ireturn, 1) := by decide +kernel
set_option maxRecDepth 100000 in
theorem sp_X9_isLetter (G : MG) (hG : (g_l G).stackTraces = false) (d : Nat) (hd : 0 ≤ d)   (σ : MsSt) (l0 : Int32) : MsSpec G mX9_isLetter d 0 0 [.int l0] σ (ms_ki σ) (f_X9_isLetter σ l0) := by
  refine ms_start (by decide +kernel) rfl rfl (Nat.le_of_ble_eq_true rfl) ?_
  show TrO G mX9_isLetter d 0 0 0 0 (ms_ki σ) 0 [(0, .int l0)] [] σ (if l0 < 97 then some 0 else if 122 < l0 then some 0 else some 1)
  refine tr_iload_n (i := 0) dX9_isLetter_0 rfl ?_
  refine tr_bipush (v := 97) dX9_isLetter_1 (by decide +kernel) ?_
  refine tr_iclt (o := none) (tgt := 16) dX9_isLetter_3 (by decide) ?_ ?_
  · refine tr_iconst (v := 0) dX9_isLetter_16 (by decide +kernel) ?_
    exact tr_zret rfl (by decide +kernel) rfl (by decide) (by decide) dX9_isLetter_17
  · refine tr_iload_n (i := 0) dX9_isLetter_6 rfl ?_
    refine tr_bipush (v := 122) dX9_isLetter_7 (by decide +kernel) ?_
    refine tr_icgt (o := none) (tgt := 16) dX9_isLetter_9 (by decide) ?_ ?_
    · refine tr_iconst (v := 0) dX9_isLetter_16 (by decide +kernel) ?_
      exact tr_zret rfl (by decide +kernel) rfl (by decide) (by decide) dX9_isLetter_17
    · refine tr_iconst (v := 1) dX9_isLetter_12 (by decide +kernel) ?_
      refine tr_goto (tgt := 17) dX9_isLetter_13 (by decide) ?_
      exact tr_zret rfl (by decide +kernel) rfl (by decide) (by decide) dX9_isLetter_17
theorem dX9_isDigit_0 : decode cX9_isDigit 0 = .ok (.iload_n 0, 1) := by decide +kernel
theorem dX9_isDigit_1 : decode cX9_isDigit 1 = .ok (.bipush 48, 2) := by decide +kernel
theorem dX9_isDigit_3 : decode cX9_isDigit 3 = .ok (.if_icmp .lt 13, 3) := by decide +kernel
theorem dX9_isDigit_6 : decode cX9_isDigit 6 = .ok (.iload_n 0, 1) := by decide +kernel
theorem dX9_isDigit_7 : decode cX9_isDigit 7 = .ok (.bipush 57, 2) := by decide +kernel
theorem dX9_isDigit_9 : decode cX9_isDigit 9 = .ok (.if_icmp .gt 7, 3) := by decide +kernel
theorem dX9_isDigit_12 : decode cX9_isDigit 12 = .ok (.iconst 1, 1) := by decide +kernel
theorem dX9_isDigit_13 : decode cX9_isDigit 13 = .ok (.goto 4, 3) := by decide +kernel
theorem dX9_isDigit_16 : decode cX9_isDigit 16 = .ok (.iconst 0, 1) := by decide +kernel
theorem dX9_isDigit_17 : decode cX9_isDigit 17 = .ok (.ireturn, 1) := by decide +kernel
set_option maxRecDepth 100000 in
theorem sp_X9_isDigit (G : MG) (hG : (g_l G).stackTraces = false) (d : Nat) (hd : 0 ≤ d)   (σ : MsSt) (l0 : Int32) : MsSpec G mX9_isDigit d 0 0 [.int l0] σ (ms_ki σ) (f_X9_isDigit σ l0) := by
  refine ms_start (by decide +kernel) rfl rfl (Nat.le_of_ble_eq_true rfl) ?_
  show TrO G mX9_isDigit d 0 0 0 0 (ms_ki σ) 0 [(0, .int l0)] [] σ (if l0 < 48 then some 0 else if 57 < l0 then some 0 else some 1)
  refine tr_iload_n (i := 0) dX9_isDigit_0 rfl ?_
  refine tr_bipush (v := 48) dX9_isDigit_1 (by decide +kernel) ?_
  refine tr_iclt (o := none) (tgt := 16) dX9_isDigit_3 (by decide) ?_ ?_
  · refine tr_iconst (v := 0) dX9_isDigit_16 (by decide +kernel) ?_
    exact tr_zret rfl (by decide +kernel) rfl (by decide) (by decide) dX9_isDigit_17
  · refine tr_iload_n (i := 0) dX9_isDigit_6 rfl ?_
    refine tr_bipush (v := 57) dX9_isDigit_7 (by decide +kernel) ?_
    refine tr_icgt (o := none) (tgt := 16) dX9_isDigit_9 (by decide) ?_ ?_
    · refine tr_iconst (v := 0) dX9_isDigit_16 (by decide +kernel) ?_
      exact tr_zret rfl (by decide +kernel) rfl (by decide) (by decide) dX9_isDigit_17
    · refine tr_iconst (v := 1) dX9_isDigit_12 (by decide +kernel) ?_
      refine tr_goto (tgt := 17) dX9_isDigit_13 (by decide) ?_
      exact tr_zret rfl (by decide +kernel) rfl (by decide) (by decide) dX9_isDigit_17
theorem dX9_advance_0 : decode cX9_advance 0 = .ok (.aload_n 0, 1) := by decide +kernel
theorem dX9_advance_1 : decode cX9_advance 1 = .ok (.getfield 19, 3) := by decide +kernel
theorem dX9_advance_4 : decode cX9_advance 4 = .ok (.ifCond .eq 4, 3) := by decide +kernel
theorem dX9_advance_7 : decode cX9_advance 7 = .ok (.return_, 1) := by decide +kernel
theorem dX9_advance_8 : decode cX9_advance 8 = .ok (.aload_n 0, 1) := by decide +kernel
theorem dX9_advance_9 : decode cX9_advance 9 = .ok (.getfield 28, 3) := by decide +kernel
theorem dX9_advance_12 : decode cX9_advance 12 = .ok (.aload_n 0, 1) := by decide +kernel
theorem dX9_advance_13 : decode cX9_advance 13 = .ok (.getfield 25, 3) := by decide +kernel
theorem dX9_advance_16 : decode cX9_advance 16 = .ok (.if_icmp .ge 30, 3) := by decide +kernel
theorem dX9_advance_19 : decode cX9_advance 19 = .ok (.aload_n 0, 1) := by decide +kernel
theorem dX9_advance_20 : decode cX9_advance 20 = .ok (.aload_n 0, 1) := by decide +kernel
theorem dX9_advance_21 : decode cX9_advance 21 = .ok (.getfield 28, 3) := by decide +kernel
theorem dX9_advance_24 : decode cX9_advance 24 = .ok (.invokevirtual 34, 3) := by decide +kernel
theorem dX9_advance_27 : decode cX9_advance 27 = .ok (.invokestatic 38, 3) := by decide +kernel
theorem dX9_advance_30 : decode cX9_advance 30 = .ok (.ifCond .eq 16, 3) := by decide +kernel
theorem dX9_advance_33 : decode cX9_advance 33 = .ok (.aload_n 0, 1) := by decide +kernel
theorem dX9_advance_34 : decode cX9_advance 34 = .ok (.dup, 1) := by decide +kernel
theorem dX9_advance_35 : decode cX9_advance 35 = .ok (.getfield 28, 3) := by decide +kernel
theorem dX9_advance_38 : decode cX9_advance 38 = .ok (.iconst 1, 1) := by decide +kernel
theorem dX9_advance_39 : decode cX9_advance 39 = .ok (.iadd, 1) := by decide +kernel
theorem dX9_advance_40 : decode cX9_advance 40 = .ok (.putfield 28, 3) := by decide +kernel
theorem dX9_advance_43 : decode cX9_advance 43 = .ok (.goto (-35), 3) := by decide +kernel
theorem dX9_advance_46 : decode cX9_advance 46 = .ok (.aload_n 0, 1) := by decide +kernel
theorem dX9_advance_47 : decode cX9_advance 47 = .ok (.aload_n 0, 1) := by decide +kernel
theorem dX9_advance_48 : decode cX9_advance 48 = .ok (.getfield 28, 3) := by decide +kernel
theorem dX9_advance_51 : decode cX9_advance 51 = .ok (.putfield 42, 3) := by decide +kernel
theorem dX9_advance_54 : decode cX9_advance 54 = .ok (.aload_n 0, 1) := by decide +kernel
theorem dX9_advance_55 : decode cX9_advance 55 = .ok (.getfield 28, 3) := by decide +kernel
theorem dX9_advance_58 : decode cX9_advance 58 = .ok (.aload_n 0, 1) := by decide +kernel
theorem dX9_advance_59 : decode cX9_advance 59 = .ok (.getfield 25, 3) := by decide +kernel
theorem dX9_advance_62 : decode cX9_advance 62 = .ok (.if_icmp .lt 11, 3) := by decide +kernel
theorem dX9_advance_65 : decode cX9_advance 65 = .ok (.aload_n 0, 1) := by decide +kernel
theorem dX9_advance_66 : decode cX9_advance 66 = .ok (.iconst 0, 1) := by decide +kernel
theorem dX9_advance_67 : decode cX9_advance 67 = .ok (.putfield 45, 3) := by decide +kernel
theorem dX9_advance_70 : decode cX9_advance 70 = .ok (.goto 177, 3) := by decide +kernel
theorem dX9_advance_73 : decode cX9_advance 73 = .ok (.aload_n 0, 1) := by decide +kernel
theorem dX9_advance_74 : decode cX9_advance 74 = .ok (.aload_n 0, 1) := by decide +kernel
theorem dX9_advance_75 : decode cX9_advance 75 = .ok (.getfield 28, 3) := by decide +kernel
theorem dX9_advance_78 : decode cX9_advance 78 = .ok (.invokevirtual 34, 3) := by decide +kernel
theorem dX9_advance_81 : decode cX9_advance 81 = .ok (.invokestatic 48, 3) := by decide +kernel
theorem dX9_advance_84 : decode cX9_advance 84 = .ok (.ifCond .eq 46, 3) := by decide +kernel
theorem dX9_advance_87 : decode cX9_advance 87 = .ok (.aload_n 0, 1) := by decide +kernel
theorem dX9_advance_88 : decode cX9_advance 88 = .ok (.iconst 1, 1) := by decide +kernel
theorem dX9_advance_89 : decode cX9_advance 89 = .ok (.putfield 45, 3) := by decide +kernel
theorem dX9_advance_92 : decode cX9_advance 92 = .ok (.aload_n 0, 1) := by decide +kernel
theorem dX9_advance_93 : decode cX9_advance 93 = .ok (.getfield 28, 3) := by decide +kernel
theorem dX9_advance_96 : decode cX9_advance 96 = .ok (.aload_n 0, 1) := by decide +kernel
theorem dX9_advance_97 : decode cX9_advance 97 = .ok (.getfield 25, 3) := by decide +kernel
theorem dX9_advance_100 : decode cX9_advance 100 = .ok (.if_icmp .ge 147, 3) := by decide +kernel
theorem dX9_advance_103 : decode cX9_advance 103 = .ok (.aload_n 0, 1) := by decide +kernel
theorem dX9_advance_104 : decode cX9_advance 104 = .ok (.aload_n 0, 1) := by decide +kernel
theorem dX9_advance_105 : decode cX9_advance 105 = .ok (.getfield 28, 3) := by decide +kernel
theorem dX9_advance_108 : decode cX9_advance 108 = .ok (.invokevirtual 34, 3) := by decide +kernel
theorem dX9_advance_111 : decode cX9_advance 111 = .ok (.invokestatic 48, 3) := by decide +kernel
theorem dX9_advance_114 : decode cX9_advance 114 = .ok (.ifCond .eq 133, 3) := by decide +kernel
theorem dX9_advance_117 : decode cX9_advance 117 = .ok (.aload_n 0, 1) := by decide +kernel
theorem dX9_advance_118 : decode cX9_advance 118 = .ok (.dup, 1) := by decide +kernel
theorem dX9_advance_119 : decode cX9_advance 119 = .ok (.getfield 28, 3) := by decide +kernel
theorem dX9_advance_122 : decode cX9_advance 122 = .ok (.iconst 1, 1) := by decide +kernel
theorem dX9_advance_123 : decode cX9_advance 123 = .ok (.iadd, 1) := by decide +kernel
theorem dX9_advance_124 : decode cX9_advance 124 = .ok (.putfield 28, 3) := by decide +kernel
theorem dX9_advance_127 : decode cX9_advance 127 = .ok (.goto (-35), 3) := by decide +kernel
theorem dX9_advance_130 : decode cX9_advance 130 = .ok (.aload_n 0, 1) := by decide +kernel
theorem dX9_advance_131 : decode cX9_advance 131 = .ok (.aload_n 0, 1) := by decide +kernel
theorem dX9_advance_132 : decode cX9_advance 132 = .ok (.getfield 28, 3) := by decide +kernel
theorem dX9_advance_135 : decode cX9_advance 135 = .ok (.invokevirtual 34, 3) := by decide +kernel
theorem dX9_advance_138 : decode cX9_advance 138 = .ok (.invokestatic 51, 3) := by decide +kernel
theorem dX9_advance_141 : decode cX9_advance 141 = .ok (.ifCond .eq 79, 3) := by decide +kernel
theorem dX9_advance_144 : decode cX9_advance 144 = .ok (.aload_n 0, 1) := by decide +kernel
theorem dX9_advance_145 : decode cX9_advance 145 = .ok (.iconst 2, 1) := by decide +kernel
theorem dX9_advance_146 : decode cX9_advance 146 = .ok (.putfield 45, 3) := by decide +kernel
theorem dX9_advance_149 : decode cX9_advance 149 = .ok (.aload_n 0, 1) := by decide +kernel
theorem dX9_advance_150 : decode cX9_advance 150 = .ok (.iconst 0, 1) := by decide +kernel
theorem dX9_advance_151 : decode cX9_advance 151 = .ok (.putfield 54, 3) := by decide +kernel
theorem dX9_advance_154 : decode cX9_advance 154 = .ok (.aload_n 0, 1) := by decide +kernel
theorem dX9_advance_155 : decode cX9_advance 155 = .ok (.getfield 28, 3) := by decide +kernel
theorem dX9_advance_158 : decode cX9_advance 158 = .ok (.aload_n 0, 1) := by decide +kernel
theorem dX9_advance_159 : decode cX9_advance 159 = .ok (.getfield 25, 3) := by decide +kernel
theorem dX9_advance_162 : decode cX9_advance 162 = .ok (.if_icmp .ge 85, 3) := by decide +kernel
theorem dX9_advance_165 : decode cX9_advance 165 = .ok (.aload_n 0, 1) := by decide +kernel
theorem dX9_advance_166 : decode cX9_advance 166 = .ok (.aload_n 0, 1) := by decide +kernel
theorem dX9_advance_167 : decode cX9_advance 167 = .ok (.getfield 28, 3) := by decide +kernel
theorem dX9_advance_170 : decode cX9_advance 170 = .ok (.invokevirtual 34, 3) := by decide +kernel
theorem dX9_advance_173 : decode cX9_advance 173 = .ok (.invokestatic 51, 3) := by decide +kernel
theorem dX9_advance_176 : decode cX9_advance 176 = .ok (.ifCond .eq 71, 3) := by decide +kernel
theorem dX9_advance_179 : decode cX9_advance 179 = .ok (.aload_n 0, 1) := by decide +kernel
theorem dX9_advance_180 : decode cX9_advance 180 = .ok (.ldc 57, 2) := by decide +kernel
theorem dX9_advance_182 : decode cX9_advance 182 = .ok (.aload_n 0, 1) := by decide +kernel
theorem dX9_advance_183 : decode cX9_advance 183 = .ok (.getfield 54, 3) := by decide +kernel
theorem dX9_advance_186 : decode cX9_advance 186 = .ok (.bipush 10, 2) := by decide +kernel
theorem dX9_advance_188 : decode cX9_advance 188 = .ok (.imul, 1) := by decide +kernel
theorem dX9_advance_189 : decode cX9_advance 189 = .ok (.aload_n 0, 1) := by decide +kernel
theorem dX9_advance_190 : decode cX9_advance 190 = .ok (.aload_n 0, 1) := by decide +kernel
theorem dX9_advance_191 : decode cX9_advance 191 = .ok (.getfield 28, 3) := by decide +kernel
theorem dX9_advance_194 : decode cX9_advance 194 = .ok (.invokevirtual 34, 3) := by decide +kernel
theorem dX9_advance_197 : decode cX9_advance 197 = .ok (.iadd, 1) := by decide +kernel
theorem dX9_advance_198 : decode cX9_advance 198 = .ok (.bipush 48, 2) := by decide +kernel
theorem dX9_advance_200 : decode cX9_advance 200 = .ok (.isub, 1) := by decide +kernel
theorem dX9_advance_201 : decode cX9_advance 201 = .ok (.invokestatic 58, 3) := by decide +kernel
theorem dX9_advance_204 : decode cX9_advance 204 = .ok (.putfield 54, 3) := by decide +kernel
theorem dX9_advance_207 : decode cX9_advance 207 = .ok (.aload_n 0, 1) := by decide +kernel
theorem dX9_advance_208 : decode cX9_advance 208 = .ok (.dup, 1) := by decide +kernel
theorem dX9_advance_209 : decode cX9_advance 209 = .ok (.getfield 28, 3) := by decide +kernel
theorem dX9_advance_212 : decode cX9_advance 212 = .ok (.iconst 1, 1) := by decide +kernel
theorem dX9_advance_213 : decode cX9_advance 213 = .ok (.iadd, 1) := by decide +kernel
theorem dX9_advance_214 : decode cX9_advance 214 = .ok (.putfield 28, 3) := by decide +kernel
theorem dX9_advance_217 : decode cX9_advance 217 = .ok (.goto (-63), 3) := by decide +kernel
theorem dX9_advance_220 : decode cX9_advance 220 = .ok (.aload_n 0, 1) := by decide +kernel
theorem dX9_advance_221 : decode cX9_advance 221 = .ok (.iconst 3, 1) := by decide +kernel
theorem dX9_advance_222 : decode cX9_advance 222 = .ok (.putfield 45, 3) := by decide +kernel
theorem dX9_advance_225 : decode cX9_advance 225 = .ok (.aload_n 0, 1) := by decide +kernel
theorem dX9_advance_226 : decode cX9_advance 226 = .ok (.aload_n 0, 1) := by decide +kernel
theorem dX9_advance_227 : decode cX9_advance 227 = .ok (.aload_n 0, 1) := by decide +kernel
theorem dX9_advance_228 : decode cX9_advance 228 = .ok (.getfield 28, 3) := by decide +kernel
theorem dX9_advance_231 : decode cX9_advance 231 = .ok (.invokevirtual 34, 3) := by decide +kernel
theorem dX9_advance_234 : decode cX9_advance 234 = .ok (.putfield 54, 3) := by decide +kernel
theorem dX9_advance_237 : decode cX9_advance 237 = .ok (.aload_n 0, 1) := by decide +kernel
theorem dX9_advance_238 : decode cX9_advance 238 = .ok (.dup, 1) := by decide +kernel
theorem dX9_advance_239 : decode cX9_advance 239 = .ok (.getfield 28, 3) := by decide +kernel
theorem dX9_advance_242 : decode cX9_advance 242 = .ok (.iconst 1, 1) := by decide +kernel
theorem dX9_advance_243 : decode cX9_advance 243 = .ok (.iadd, 1) := by decide +kernel
theorem dX9_advance_244 : decode cX9_advance 244 = .ok (.putfield 28, 3) := by decide +kernel
theorem dX9_advance_247 : decode cX9_advance 247 = .ok (.return_, 1) := by decide +kernel
set_option maxRecDepth 100000 in
theorem t_X9_advance_154 (G : MG) (hG : (g_l G).stackTraces = false) (d : Nat) (hd : 1 ≤ d)    : ∀ (n : Nat) (σ : MsSt) (l0 : Nat) (h0 : ms_kd l0 = 10), TrO G mX9_advance d 0 0 0 0 ms_wv 154 [(0, .ref l0)] [] σ (f_X9_advance_154 n σ l0) := by
  intro n
  induction n with
  | zero => exact fun _ _ _ => tr_none
  | succ n ih =>
    intro σ l0 h0
    show TrO G mX9_advance d 0 0 0 0 ms_wv 154 [(0, .ref l0)] [] σ (if (ms_i σ l0 4) < (ms_i σ l0 2) then (f_X9_byteAt σ l0 (ms_i σ l0 4)).bind fun v12 => (f_X9_isDigit σ v12).bind fun v13 => if v13 = 0 then some σ else (f_X9_byteAt σ l0 (ms_i σ l0 4)).bind fun v14 => ms_nm (ms_si σ l0 6 (if ((((ms_i σ l0 6) * 10) + v14) - 48) < 1000000 then ((((ms_i σ l0 6) * 10) + v14) - 48) else 1000000)) fun s15 => ms_nm (ms_si s15 l0 4 ((ms_i s15 l0 4) + 1)) fun s16 => (f_X9_advance_154 n) s16 l0 else some σ)
    refine tr_aload_n (i := 0) dX9_advance_154 rfl ?_
    refine tr_getI 9 h0 fl_X9_28 (by decide +kernel) dX9_advance_155 ?_
    refine tr_aload_n (i := 0) dX9_advance_158 rfl ?_
    refine tr_getI 9 h0 fl_X9_25 (by decide +kernel) dX9_advance_159 ?_
    refine tr_icge (o := none) (tgt := 247) dX9_advance_162 (by decide) ?_ ?_
    · exact tr_vret rfl rfl (by decide) (by decide) dX9_advance_247
    · refine tr_aload_n (i := 0) dX9_advance_165 rfl ?_
      refine tr_aload_n (i := 0) dX9_advance_166 rfl ?_
      refine tr_getI 9 h0 fl_X9_28 (by decide +kernel) dX9_advance_167 ?_
      refine tr_c_i (ms_cV (rest := []) (al := [.int (ms_i σ l0 4)]) 9 (sp_X9_byteAt G hG (d - 1) (by omega) σ l0 (ms_i σ l0 4) h0) h0 (by decide +kernel) kl_X9_34 fv_X9_byteAt dX9_advance_170 (show _ = some 1 by decide +kernel) (by omega) (Nat.le_of_ble_eq_true rfl) (by decide) (by decide)) (fun v12 => ?_)
      refine tr_c_i (ms_cS (rest := []) (al := [.int v12]) (sp_X9_isDigit G hG (d - 1) (by omega) σ v12) kl_X9_51 fs_X9_isDigit dX9_advance_173 (show _ = some 1 by decide +kernel) (by omega) (Nat.le_of_ble_eq_true rfl) (by decide) (by decide)) (fun v13 => ?_)
      refine tr_ifeq (o := none) (tgt := 247) dX9_advance_176 (by decide) ?_ ?_
      · exact tr_vret rfl rfl (by decide) (by decide) dX9_advance_247
      · refine tr_aload_n (i := 0) dX9_advance_179 rfl ?_
        refine tr_ldci (v := 1000000) (List.mem_of_getElem? (i := 784) (by decide +kernel)) dX9_advance_180 ?_
        refine tr_aload_n (i := 0) dX9_advance_182 rfl ?_
        refine tr_getI 9 h0 fl_X9_54 (by decide +kernel) dX9_advance_183 ?_
        refine tr_bipush (v := 10) dX9_advance_186 (by decide +kernel) ?_
        refine tr_imul dX9_advance_188 ?_
        refine tr_aload_n (i := 0) dX9_advance_189 rfl ?_
        refine tr_aload_n (i := 0) dX9_advance_190 rfl ?_
        refine tr_getI 9 h0 fl_X9_28 (by decide +kernel) dX9_advance_191 ?_
        refine tr_c_i (ms_cV (rest := [.int ((ms_i σ l0 6) * 10), .int 1000000, .ref l0]) (al := [.int (ms_i σ l0 4)]) 9 (sp_X9_byteAt G hG (d - 1) (by omega) σ l0 (ms_i σ l0 4) h0) h0 (by decide +kernel) kl_X9_34 fv_X9_byteAt dX9_advance_194 (show _ = some 1 by decide +kernel) (by omega) (Nat.le_of_ble_eq_true rfl) (by decide) (by decide)) (fun v14 => ?_)
        refine tr_iadd dX9_advance_197 ?_
        refine tr_bipush (v := 48) dX9_advance_198 (by decide +kernel) ?_
        refine tr_isub dX9_advance_200 ?_
        refine tr_mmin (List.mem_of_getElem? (i := 785) (by decide +kernel)) (List.mem_of_getElem? (i := 786) (by decide +kernel)) (List.mem_of_getElem? (i := 144) (by decide +kernel)) (List.mem_of_getElem? (i := 787) (by decide +kernel)) (by omega) (Nat.le_of_ble_eq_true rfl) (by decide) (by decide) dX9_advance_201 ?_
        refine tr_putI 9 h0 fl_X9_54 (by decide +kernel) dX9_advance_204 ?_
        refine ms_ltS (fun s15 => ?_)
        refine tr_aload_n (i := 0) dX9_advance_207 rfl ?_
        refine tr_dup dX9_advance_208 rfl ?_
        refine tr_getI 9 h0 fl_X9_28 (by decide +kernel) dX9_advance_209 ?_
        refine tr_iconst (v := 1) dX9_advance_212 (by decide +kernel) ?_
        refine tr_iadd dX9_advance_213 ?_
        refine tr_putI 9 h0 fl_X9_28 (by decide +kernel) dX9_advance_214 ?_
        refine ms_ltS (fun s16 => ?_)
        refine tr_goto (tgt := 154) dX9_advance_217 (by decide) ?_
        exact (fun s y0 g0 => ih s y0 g0) s16 l0 h0
set_option maxRecDepth 100000 in
theorem t_X9_advance_92 (G : MG) (hG : (g_l G).stackTraces = false) (d : Nat) (hd : 1 ≤ d)    : ∀ (n : Nat) (σ : MsSt) (l0 : Nat) (h0 : ms_kd l0 = 10), TrO G mX9_advance d 0 0 0 0 ms_wv 92 [(0, .ref l0)] [] σ (f_X9_advance_92 n σ l0) := by
  intro n
  induction n with
  | zero => exact fun _ _ _ => tr_none
  | succ n ih =>
    intro σ l0 h0
    show TrO G mX9_advance d 0 0 0 0 ms_wv 92 [(0, .ref l0)] [] σ (if (ms_i σ l0 4) < (ms_i σ l0 2) then (f_X9_byteAt σ l0 (ms_i σ l0 4)).bind fun v18 => (f_X9_isLetter σ v18).bind fun v19 => if v19 = 0 then some σ else ms_nm (ms_si σ l0 4 ((ms_i σ l0 4) + 1)) fun s20 => (f_X9_advance_92 n) s20 l0 else some σ)
    refine tr_aload_n (i := 0) dX9_advance_92 rfl ?_
    refine tr_getI 9 h0 fl_X9_28 (by decide +kernel) dX9_advance_93 ?_
    refine tr_aload_n (i := 0) dX9_advance_96 rfl ?_
    refine tr_getI 9 h0 fl_X9_25 (by decide +kernel) dX9_advance_97 ?_
    refine tr_icge (o := none) (tgt := 247) dX9_advance_100 (by decide) ?_ ?_
    · exact tr_vret rfl rfl (by decide) (by decide) dX9_advance_247
    · refine tr_aload_n (i := 0) dX9_advance_103 rfl ?_
      refine tr_aload_n (i := 0) dX9_advance_104 rfl ?_
      refine tr_getI 9 h0 fl_X9_28 (by decide +kernel) dX9_advance_105 ?_
      refine tr_c_i (ms_cV (rest := []) (al := [.int (ms_i σ l0 4)]) 9 (sp_X9_byteAt G hG (d - 1) (by omega) σ l0 (ms_i σ l0 4) h0) h0 (by decide +kernel) kl_X9_34 fv_X9_byteAt dX9_advance_108 (show _ = some 1 by decide +kernel) (by omega) (Nat.le_of_ble_eq_true rfl) (by decide) (by decide)) (fun v18 => ?_)
      refine tr_c_i (ms_cS (rest := []) (al := [.int v18]) (sp_X9_isLetter G hG (d - 1) (by omega) σ v18) kl_X9_48 fs_X9_isLetter dX9_advance_111 (show _ = some 1 by decide +kernel) (by omega) (Nat.le_of_ble_eq_true rfl) (by decide) (by decide)) (fun v19 => ?_)
      refine tr_ifeq (o := none) (tgt := 247) dX9_advance_114 (by decide) ?_ ?_
      · exact tr_vret rfl rfl (by decide) (by decide) dX9_advance_247
      · refine tr_aload_n (i := 0) dX9_advance_117 rfl ?_
        refine tr_dup dX9_advance_118 rfl ?_
        refine tr_getI 9 h0 fl_X9_28 (by decide +kernel) dX9_advance_119 ?_
        refine tr_iconst (v := 1) dX9_advance_122 (by decide +kernel) ?_
        refine tr_iadd dX9_advance_123 ?_
        refine tr_putI 9 h0 fl_X9_28 (by decide +kernel) dX9_advance_124 ?_
        refine ms_ltS (fun s20 => ?_)
        refine tr_goto (tgt := 92) dX9_advance_127 (by decide) ?_
        exact (fun s y0 g0 => ih s y0 g0) s20 l0 h0
set_option maxRecDepth 100000 in
theorem t_X9_advance_46 (G : MG) (hG : (g_l G).stackTraces = false) (d : Nat) (hd : 1 ≤ d)    (σ : MsSt) (l0 : Nat) (h0 : ms_kd l0 = 10) : TrO G mX9_advance d 0 0 0 0 ms_wv 46 [(0, .ref l0)] [] σ (f_X9_advance_46 σ l0) := by
  show TrO G mX9_advance d 0 0 0 0 ms_wv 46 [(0, .ref l0)] [] σ (ms_nm (ms_si σ l0 3 (ms_i σ l0 4)) fun s1 => if (ms_i s1 l0 4) < (ms_i s1 l0 2) then (f_X9_byteAt s1 l0 (ms_i s1 l0 4)).bind fun v2 => (f_X9_isLetter s1 v2).bind fun v3 => if v3 = 0 then (f_X9_byteAt s1 l0 (ms_i s1 l0 4)).bind fun v4 => (f_X9_isDigit s1 v4).bind fun v5 => if v5 = 0 then ms_nm (ms_si s1 l0 5 3) fun s6 => (f_X9_byteAt s6 l0 (ms_i s6 l0 4)).bind fun v7 => ms_nm (ms_si s6 l0 6 v7) fun s8 => ms_nm (ms_si s8 l0 4 ((ms_i s8 l0 4) + 1)) fun s9 => some s9 else ms_nm (ms_si s1 l0 5 2) fun s10 => ms_nm (ms_si s10 l0 6 0) fun s11 => f_X9_advance_154 ms_fuel s11 l0 else ms_nm (ms_si s1 l0 5 1) fun s17 => f_X9_advance_92 ms_fuel s17 l0 else ms_nm (ms_si s1 l0 5 0) fun s21 => some s21)
  refine tr_aload_n (i := 0) dX9_advance_46 rfl ?_
  refine tr_aload_n (i := 0) dX9_advance_47 rfl ?_
  refine tr_getI 9 h0 fl_X9_28 (by decide +kernel) dX9_advance_48 ?_
  refine tr_putI 9 h0 fl_X9_42 (by decide +kernel) dX9_advance_51 ?_
  refine ms_ltS (fun s1 => ?_)
  refine tr_aload_n (i := 0) dX9_advance_54 rfl ?_
  refine tr_getI 9 h0 fl_X9_28 (by decide +kernel) dX9_advance_55 ?_
  refine tr_aload_n (i := 0) dX9_advance_58 rfl ?_
  refine tr_getI 9 h0 fl_X9_25 (by decide +kernel) dX9_advance_59 ?_
  refine tr_iclt (o := none) (tgt := 73) dX9_advance_62 (by decide) ?_ ?_
  · refine tr_aload_n (i := 0) dX9_advance_73 rfl ?_
    refine tr_aload_n (i := 0) dX9_advance_74 rfl ?_
    refine tr_getI 9 h0 fl_X9_28 (by decide +kernel) dX9_advance_75 ?_
    refine tr_c_i (ms_cV (rest := []) (al := [.int (ms_i s1 l0 4)]) 9 (sp_X9_byteAt G hG (d - 1) (by omega) s1 l0 (ms_i s1 l0 4) h0) h0 (by decide +kernel) kl_X9_34 fv_X9_byteAt dX9_advance_78 (show _ = some 1 by decide +kernel) (by omega) (Nat.le_of_ble_eq_true rfl) (by decide) (by decide)) (fun v2 => ?_)
    refine tr_c_i (ms_cS (rest := []) (al := [.int v2]) (sp_X9_isLetter G hG (d - 1) (by omega) s1 v2) kl_X9_48 fs_X9_isLetter dX9_advance_81 (show _ = some 1 by decide +kernel) (by omega) (Nat.le_of_ble_eq_true rfl) (by decide) (by decide)) (fun v3 => ?_)
    refine tr_ifeq (o := none) (tgt := 130) dX9_advance_84 (by decide) ?_ ?_
    · refine tr_aload_n (i := 0) dX9_advance_130 rfl ?_
      refine tr_aload_n (i := 0) dX9_advance_131 rfl ?_
      refine tr_getI 9 h0 fl_X9_28 (by decide +kernel) dX9_advance_132 ?_
      refine tr_c_i (ms_cV (rest := []) (al := [.int (ms_i s1 l0 4)]) 9 (sp_X9_byteAt G hG (d - 1) (by omega) s1 l0 (ms_i s1 l0 4) h0) h0 (by decide +kernel) kl_X9_34 fv_X9_byteAt dX9_advance_135 (show _ = some 1 by decide +kernel) (by omega) (Nat.le_of_ble_eq_true rfl) (by decide) (by decide)) (fun v4 => ?_)
      refine tr_c_i (ms_cS (rest := []) (al := [.int v4]) (sp_X9_isDigit G hG (d - 1) (by omega) s1 v4) kl_X9_51 fs_X9_isDigit dX9_advance_138 (show _ = some 1 by decide +kernel) (by omega) (Nat.le_of_ble_eq_true rfl) (by decide) (by decide)) (fun v5 => ?_)
      refine tr_ifeq (o := none) (tgt := 220) dX9_advance_141 (by decide) ?_ ?_
      · refine tr_aload_n (i := 0) dX9_advance_220 rfl ?_
        refine tr_iconst (v := 3) dX9_advance_221 (by decide +kernel) ?_
        refine tr_putI 9 h0 fl_X9_45 (by decide +kernel) dX9_advance_222 ?_
        refine ms_ltS (fun s6 => ?_)
        refine tr_aload_n (i := 0) dX9_advance_225 rfl ?_
        refine tr_aload_n (i := 0) dX9_advance_226 rfl ?_
        refine tr_aload_n (i := 0) dX9_advance_227 rfl ?_
        refine tr_getI 9 h0 fl_X9_28 (by decide +kernel) dX9_advance_228 ?_
        refine tr_c_i (ms_cV (rest := [.ref l0]) (al := [.int (ms_i s6 l0 4)]) 9 (sp_X9_byteAt G hG (d - 1) (by omega) s6 l0 (ms_i s6 l0 4) h0) h0 (by decide +kernel) kl_X9_34 fv_X9_byteAt dX9_advance_231 (show _ = some 1 by decide +kernel) (by omega) (Nat.le_of_ble_eq_true rfl) (by decide) (by decide)) (fun v7 => ?_)
        refine tr_putI 9 h0 fl_X9_54 (by decide +kernel) dX9_advance_234 ?_
        refine ms_ltS (fun s8 => ?_)
        refine tr_aload_n (i := 0) dX9_advance_237 rfl ?_
        refine tr_dup dX9_advance_238 rfl ?_
        refine tr_getI 9 h0 fl_X9_28 (by decide +kernel) dX9_advance_239 ?_
        refine tr_iconst (v := 1) dX9_advance_242 (by decide +kernel) ?_
        refine tr_iadd dX9_advance_243 ?_
        refine tr_putI 9 h0 fl_X9_28 (by decide +kernel) dX9_advance_244 ?_
        refine ms_ltS (fun s9 => ?_)
        exact tr_vret rfl rfl (by decide) (by decide) dX9_advance_247
      · refine tr_aload_n (i := 0) dX9_advance_144 rfl ?_
        refine tr_iconst (v := 2) dX9_advance_145 (by decide +kernel) ?_
        refine tr_putI 9 h0 fl_X9_45 (by decide +kernel) dX9_advance_146 ?_
        refine ms_ltS (fun s10 => ?_)
        refine tr_aload_n (i := 0) dX9_advance_149 rfl ?_
        refine tr_iconst (v := 0) dX9_advance_150 (by decide +kernel) ?_
        refine tr_putI 9 h0 fl_X9_54 (by decide +kernel) dX9_advance_151 ?_
        refine ms_ltS (fun s11 => ?_)
        exact t_X9_advance_154 G hG d hd ms_fuel s11 l0 h0
    · refine tr_aload_n (i := 0) dX9_advance_87 rfl ?_
      refine tr_iconst (v := 1) dX9_advance_88 (by decide +kernel) ?_
      refine tr_putI 9 h0 fl_X9_45 (by decide +kernel) dX9_advance_89 ?_
      refine ms_ltS (fun s17 => ?_)
      exact t_X9_advance_92 G hG d hd ms_fuel s17 l0 h0
  · refine tr_aload_n (i := 0) dX9_advance_65 rfl ?_
    refine tr_iconst (v := 0) dX9_advance_66 (by decide +kernel) ?_
    refine tr_putI 9 h0 fl_X9_45 (by decide +kernel) dX9_advance_67 ?_
    refine ms_ltS (fun s21 => ?_)
    refine tr_goto (tgt := 247) dX9_advance_70 (by decide) ?_
    exact tr_vret rfl rfl (by decide) (by decide) dX9_advance_247
set_option maxRecDepth 100000 in
theorem t_X9_advance_8 (G : MG) (hG : (g_l G).stackTraces = false) (d : Nat) (hd : 1 ≤ d)    : ∀ (n : Nat) (σ : MsSt) (l0 : Nat) (h0 : ms_kd l0 = 10), TrO G mX9_advance d 0 0 0 0 ms_wv 8 [(0, .ref l0)] [] σ (f_X9_advance_8 n σ l0) := by
  intro n
  induction n with
  | zero => exact fun _ _ _ => tr_none
  | succ n ih =>
    intro σ l0 h0
    show TrO G mX9_advance d 0 0 0 0 ms_wv 8 [(0, .ref l0)] [] σ (if (ms_i σ l0 4) < (ms_i σ l0 2) then (f_X9_byteAt σ l0 (ms_i σ l0 4)).bind fun v22 => (f_X9_isSeparator σ v22).bind fun v23 => if v23 = 0 then f_X9_advance_46 σ l0 else ms_nm (ms_si σ l0 4 ((ms_i σ l0 4) + 1)) fun s24 => (f_X9_advance_8 n) s24 l0 else f_X9_advance_46 σ l0)
    refine tr_aload_n (i := 0) dX9_advance_8 rfl ?_
    refine tr_getI 9 h0 fl_X9_28 (by decide +kernel) dX9_advance_9 ?_
    refine tr_aload_n (i := 0) dX9_advance_12 rfl ?_
    refine tr_getI 9 h0 fl_X9_25 (by decide +kernel) dX9_advance_13 ?_
    refine tr_icge (o := none) (tgt := 46) dX9_advance_16 (by decide) ?_ ?_
    · exact t_X9_advance_46 G hG d hd σ l0 h0
    · refine tr_aload_n (i := 0) dX9_advance_19 rfl ?_
      refine tr_aload_n (i := 0) dX9_advance_20 rfl ?_
      refine tr_getI 9 h0 fl_X9_28 (by decide +kernel) dX9_advance_21 ?_
      refine tr_c_i (ms_cV (rest := []) (al := [.int (ms_i σ l0 4)]) 9 (sp_X9_byteAt G hG (d - 1) (by omega) σ l0 (ms_i σ l0 4) h0) h0 (by decide +kernel) kl_X9_34 fv_X9_byteAt dX9_advance_24 (show _ = some 1 by decide +kernel) (by omega) (Nat.le_of_ble_eq_true rfl) (by decide) (by decide)) (fun v22 => ?_)
      refine tr_c_i (ms_cS (rest := []) (al := [.int v22]) (sp_X9_isSeparator G hG (d - 1) (by omega) σ v22) kl_X9_38 fs_X9_isSeparator dX9_advance_27 (show _ = some 1 by decide +kernel) (by omega) (Nat.le_of_ble_eq_true rfl) (by decide) (by decide)) (fun v23 => ?_)
      refine tr_ifeq (o := none) (tgt := 46) dX9_advance_30 (by decide) ?_ ?_
      · exact t_X9_advance_46 G hG d hd σ l0 h0
      · refine tr_aload_n (i := 0) dX9_advance_33 rfl ?_
        refine tr_dup dX9_advance_34 rfl ?_
        refine tr_getI 9 h0 fl_X9_28 (by decide +kernel) dX9_advance_35 ?_
        refine tr_iconst (v := 1) dX9_advance_38 (by decide +kernel) ?_
        refine tr_iadd dX9_advance_39 ?_
        refine tr_putI 9 h0 fl_X9_28 (by decide +kernel) dX9_advance_40 ?_
        refine ms_ltS (fun s24 => ?_)
        refine tr_goto (tgt := 8) dX9_advance_43 (by decide) ?_
        exact (fun s y0 g0 => ih s y0 g0) s24 l0 h0
set_option maxRecDepth 100000 in
theorem sp_X9_advance (G : MG) (hG : (g_l G).stackTraces = false) (d : Nat) (hd : 1 ≤ d)   (σ : MsSt) (l0 : Nat) (h0 : ms_kd l0 = 10) : MsSpec G mX9_advance d 0 0 [.ref l0] σ ms_wv (f_X9_advance σ l0) := by
  refine ms_start (by decide +kernel) rfl rfl (Nat.le_of_ble_eq_true rfl) ?_
  show TrO G mX9_advance d 0 0 0 0 ms_wv 0 [(0, .ref l0)] [] σ (if (ms_i σ l0 7) = 0 then f_X9_advance_8 ms_fuel σ l0 else some σ)
  refine tr_aload_n (i := 0) dX9_advance_0 rfl ?_
  refine tr_getI 9 h0 fl_X9_19 (by decide +kernel) dX9_advance_1 ?_
  refine tr_ifeq (o := none) (tgt := 8) dX9_advance_4 (by decide) ?_ ?_
  · exact t_X9_advance_8 G hG d hd ms_fuel σ l0 h0
  · exact tr_vret rfl rfl (by decide) (by decide) dX9_advance_7
theorem dX9_begin_0 : decode cX9_begin 0 = .ok (.aload_n 0, 1) := by decide +kernel
theorem dX9_begin_1 : decode cX9_begin 1 = .ok (.iload_n 1, 1) := by decide +kernel
theorem dX9_begin_2 : decode cX9_begin 2 = .ok (.putfield 25, 3) := by decide +kernel
theorem dX9_begin_5 : decode cX9_begin 5 = .ok (.aload_n 0, 1) := by decide +kernel
theorem dX9_begin_6 : decode cX9_begin 6 = .ok (.iconst 0, 1) := by decide +kernel
theorem dX9_begin_7 : decode cX9_begin 7 = .ok (.putfield 28, 3) := by decide +kernel
theorem dX9_begin_10 : decode cX9_begin 10 = .ok (.aload_n 0, 1) := by decide +kernel
theorem dX9_begin_11 : decode cX9_begin 11 = .ok (.iconst 0, 1) := by decide +kernel
theorem dX9_begin_12 : decode cX9_begin 12 = .ok (.putfield 19, 3) := by decide +kernel
theorem dX9_begin_15 : decode cX9_begin 15 = .ok (.aload_n 0, 1) := by decide +kernel
theorem dX9_begin_16 : decode cX9_begin 16 = .ok (.iconst (-1), 1) := by decide +kernel
theorem dX9_begin_17 : decode cX9_begin 17 = .ok (.putfield 22, 3) := by decide +kernel
theorem dX9_begin_20 : decode cX9_begin 20 = .ok (.aload_n 0, 1) := by decide +kernel
theorem dX9_begin_21 : decode cX9_begin 21 = .ok (.invokevirtual 31, 3) := by decide +kernel
theorem dX9_begin_24 : decode cX9_begin 24 = .ok (.return_, 1) := by decide +kernel
set_option maxRecDepth 100000 in
theorem sp_X9_begin (G : MG) (hG : (g_l G).stackTraces = false) (d : Nat) (hd : 2 ≤ d)   (σ : MsSt) (l0 : Nat) (l1 : Int32) (h0 : ms_kd l0 = 10) : MsSpec G mX9_begin d 0 0 [.ref l0, .int l1] σ ms_wv (f_X9_begin σ l0 l1) := by
  refine ms_start (by decide +kernel) rfl rfl (Nat.le_of_ble_eq_true rfl) ?_
  show TrO G mX9_begin d 0 0 0 0 ms_wv 0 [(0, .ref l0), (1, .int l1)] [] σ (ms_nm (ms_si σ l0 2 l1) fun s1 => ms_nm (ms_si s1 l0 4 0) fun s2 => ms_nm (ms_si s2 l0 7 0) fun s3 => ms_nm (ms_si s3 l0 8 (-1)) fun s4 => (f_X9_advance s4 l0).bind fun s5 => some s5)
  refine tr_aload_n (i := 0) dX9_begin_0 rfl ?_
  refine tr_iload_n (i := 1) dX9_begin_1 rfl ?_
  refine tr_putI 9 h0 fl_X9_25 (by decide +kernel) dX9_begin_2 ?_
  refine ms_ltS (fun s1 => ?_)
  refine tr_aload_n (i := 0) dX9_begin_5 rfl ?_
  refine tr_iconst (v := 0) dX9_begin_6 (by decide +kernel) ?_
  refine tr_putI 9 h0 fl_X9_28 (by decide +kernel) dX9_begin_7 ?_
  refine ms_ltS (fun s2 => ?_)
  refine tr_aload_n (i := 0) dX9_begin_10 rfl ?_
  refine tr_iconst (v := 0) dX9_begin_11 (by decide +kernel) ?_
  refine tr_putI 9 h0 fl_X9_19 (by decide +kernel) dX9_begin_12 ?_
  refine ms_ltS (fun s3 => ?_)
  refine tr_aload_n (i := 0) dX9_begin_15 rfl ?_
  refine tr_iconst (v := (-1)) dX9_begin_16 (by decide +kernel) ?_
  refine tr_putI 9 h0 fl_X9_22 (by decide +kernel) dX9_begin_17 ?_
  refine ms_ltS (fun s4 => ?_)
  refine tr_aload_n (i := 0) dX9_begin_20 rfl ?_
  refine tr_c_wv (ms_cV (rest := []) (al := []) 9 (sp_X9_advance G hG (d - 1) (by omega) s4 l0 h0) h0 (by decide +kernel) kl_X9_31 fv_X9_advance dX9_begin_21 (show _ = some 0 by decide +kernel) (by omega) (Nat.le_of_ble_eq_true rfl) (by decide) (by decide)) (fun s5 => ?_)
  exact tr_vret rfl rfl (by decide) (by decide) dX9_begin_24
theorem dX9_isWord_0 : decode cX9_isWord 0 = .ok (.aload_n 0, 1) := by decide +kernel
theorem dX9_isWord_1 : decode cX9_isWord 1 = .ok (.getfield 45, 3) := by decide +kernel
theorem dX9_isWord_4 : decode cX9_isWord 4 = .ok (.iconst 1, 1) := by decide +kernel
theorem dX9_isWord_5 : decode cX9_isWord 5 = .ok (.if_icmp .ne 19, 3) := by decide +kernel
theorem dX9_isWord_8 : decode cX9_isWord 8 = .ok (.aload_n 0, 1) := by decide +kernel
theorem dX9_isWord_9 : decode cX9_isWord 9 = .ok (.getfield 28, 3) := by decide +kernel
theorem dX9_isWord_12 : decode cX9_isWord 12 = .ok (.aload_n 0, 1) := by decide +kernel
theorem dX9_isWord_13 : decode cX9_isWord 13 = .ok (.getfield 42, 3) := by decide +kernel
theorem dX9_isWord_16 : decode cX9_isWord 16 = .ok (.isub, 1) := by decide +kernel
theorem dX9_isWord_17 : decode cX9_isWord 17 = .ok (.aload_n 1, 1) := by decide +kernel
theorem dX9_isWord_18 : decode cX9_isWord 18 = .ok (.invokevirtual 64, 3) := by decide +kernel
theorem dX9_isWord_21 : decode cX9_isWord 21 = .ok (.if_icmp .eq 5, 3) := by decide +kernel
theorem dX9_isWord_24 : decode cX9_isWord 24 = .ok (.iconst 0, 1) := by decide +kernel
theorem dX9_isWord_25 : decode cX9_isWord 25 = .ok (.ireturn, 1) := by decide +kernel
theorem dX9_isWord_26 : decode cX9_isWord 26 = .ok (.iconst 0, 1) := by decide +kernel
theorem dX9_isWord_27 : decode cX9_isWord 27 = .ok (.istore_n 2, 1) := by decide +kernel
theorem dX9_isWord_28 : decode cX9_isWord 28 = .ok (.iload_n 2, 1) := by decide +kernel
theorem dX9_isWord_29 : decode cX9_isWord 29 = .ok (.aload_n 1, 1) := by decide +kernel
theorem dX9_isWord_30 : decode cX9_isWord 30 = .ok (.invokevirtual 64, 3) := by decide +kernel
theorem dX9_isWord_33 : decode cX9_isWord 33 = .ok (.if_icmp .ge 29, 3) := by decide +kernel
theorem dX9_isWord_36 : decode cX9_isWord 36 = .ok (.aload_n 1, 1) := by decide +kernel
theorem dX9_isWord_37 : decode cX9_isWord 37 = .ok (.iload_n 2, 1) := by decide +kernel
theorem dX9_isWord_38 : decode cX9_isWord 38 = .ok (.invokevirtual 70, 3) := by decide +kernel
theorem dX9_isWord_41 : decode cX9_isWord 41 = .ok (.aload_n 0, 1) := by decide +kernel
theorem dX9_isWord_42 : decode cX9_isWord 42 = .ok (.aload_n 0, 1) := by decide +kernel
theorem dX9_isWord_43 : decode cX9_isWord 43 = .ok (.getfield 42, 3) := by decide +kernel
theorem dX9_isWord_46 : decode cX9_isWord 46 = .ok (.iload_n 2, 1) := by decide +kernel
theorem dX9_isWord_47 : decode cX9_isWord 47 = .ok (.iadd, 1) := by decide +kernel
theorem dX9_isWord_48 : decode cX9_isWord 48 = .ok (.invokevirtual 34, 3) := by decide +kernel
theorem dX9_isWord_51 : decode cX9_isWord 51 = .ok (.if_icmp .eq 5, 3) := by decide +kernel
theorem dX9_isWord_54 : decode cX9_isWord 54 = .ok (.iconst 0, 1) := by decide +kernel
theorem dX9_isWord_55 : decode cX9_isWord 55 = .ok (.ireturn, 1) := by decide +kernel
theorem dX9_isWord_56 : decode cX9_isWord 56 = .ok (.iinc 2 1, 3) := by decide +kernel
theorem dX9_isWord_59 : decode cX9_isWord 59 = .ok (.goto (-31), 3) := by decide +kernel
theorem dX9_isWord_62 : decode cX9_isWord 62 = .ok (.iconst 1, 1) := by decide +kernel
theorem dX9_isWord_63 : decode cX9_isWord 63 = .ok (.ireturn, 1) := by decide +kernel
set_option maxRecDepth 100000 in
theorem t_X9_isWord_28 (G : MG) (hG : (g_l G).stackTraces = false) (d : Nat) (hd : 4 ≤ d)   (σ : MsSt)  : ∀ (n : Nat) (l0 : Nat) (l1 : Nat) (l2 : Int32) (h0 : ms_kd l0 = 10) (h1 : ms_isS l1), TrO G mX9_isWord d 0 0 0 0 (ms_ki σ) 28 [(0, .ref l0), (1, .ref l1), (2, .int l2)] [] σ (f_X9_isWord_28 σ n l0 l1 l2) := by
  intro n
  induction n with
  | zero => exact fun _ _ _ _ _ => tr_none
  | succ n ih =>
    intro l0 l1 l2 h0 h1
    show TrO G mX9_isWord d 0 0 0 0 (ms_ki σ) 28 [(0, .ref l0), (1, .ref l1), (2, .int l2)] [] σ ((f_J0_length_8abf5 σ l1).bind fun v2 => if l2 < v2 then (f_J0_charAt_5068e σ l1 l2).bind fun v3 => (f_X9_byteAt σ l0 ((ms_i σ l0 3) + l2)).bind fun v4 => if v3 = v4 then (f_X9_isWord_28 σ n) l0 l1 (l2 + 1) else some 0 else some 1)
    refine tr_iload_n (i := 2) dX9_isWord_28 rfl ?_
    refine tr_aload_n (i := 1) dX9_isWord_29 rfl ?_
    refine tr_c_i (ms_cVs (rest := [.int l2]) (al := []) (sp_J0_length_8abf5 G hG (d - 1) (by omega) σ l1 h1) rfl h1 kl_X9_64 fv_J0_length_8abf5 dX9_isWord_30 (show _ = some 0 by decide +kernel) (by omega) (Nat.le_of_ble_eq_true rfl) (by decide) (by decide)) (fun v2 => ?_)
    refine tr_icge (o := none) (tgt := 62) dX9_isWord_33 (by decide) ?_ ?_
    · refine tr_iconst (v := 1) dX9_isWord_62 (by decide +kernel) ?_
      exact tr_zret rfl (by decide +kernel) rfl (by decide) (by decide) dX9_isWord_63
    · refine tr_aload_n (i := 1) dX9_isWord_36 rfl ?_
      refine tr_iload_n (i := 2) dX9_isWord_37 rfl ?_
      refine tr_c_i (ms_cVs (rest := []) (al := [.int l2]) (sp_J0_charAt_5068e G hG (d - 1) (by omega) σ l1 l2 h1) rfl h1 kl_X9_70 fv_J0_charAt_5068e dX9_isWord_38 (show _ = some 1 by decide +kernel) (by omega) (Nat.le_of_ble_eq_true rfl) (by decide) (by decide)) (fun v3 => ?_)
      refine tr_aload_n (i := 0) dX9_isWord_41 rfl ?_
      refine tr_aload_n (i := 0) dX9_isWord_42 rfl ?_
      refine tr_getI 9 h0 fl_X9_42 (by decide +kernel) dX9_isWord_43 ?_
      refine tr_iload_n (i := 2) dX9_isWord_46 rfl ?_
      refine tr_iadd dX9_isWord_47 ?_
      refine tr_c_i (ms_cV (rest := [.int v3]) (al := [.int ((ms_i σ l0 3) + l2)]) 9 (sp_X9_byteAt G hG (d - 1) (by omega) σ l0 ((ms_i σ l0 3) + l2) h0) h0 (by decide +kernel) kl_X9_34 fv_X9_byteAt dX9_isWord_48 (show _ = some 1 by decide +kernel) (by omega) (Nat.le_of_ble_eq_true rfl) (by decide) (by decide)) (fun v4 => ?_)
      refine tr_iceq (o := none) (tgt := 56) dX9_isWord_51 (by decide) ?_ ?_
      · refine tr_iinc (k := 2) (v := (l2 + 1)) (lv' := [(0, .ref l0), (1, .ref l1), (2, .int (l2 + 1))]) [1, 2, 0] dX9_isWord_56 rfl rfl (by decide) rfl ?_
        refine tr_goto (tgt := 28) dX9_isWord_59 (by decide) ?_
        exact (fun y0 y1 y2 g0 g1 => ih y0 y1 y2 g0 g1) l0 l1 (l2 + 1) h0 h1
      · refine tr_iconst (v := 0) dX9_isWord_54 (by decide +kernel) ?_
        exact tr_zret rfl (by decide +kernel) rfl (by decide) (by decide) dX9_isWord_55
set_option maxRecDepth 100000 in
theorem sp_X9_isWord (G : MG) (hG : (g_l G).stackTraces = false) (d : Nat) (hd : 4 ≤ d)   (σ : MsSt) (l0 : Nat) (l1 : Nat) (h0 : ms_kd l0 = 10) (h1 : ms_isS l1) : MsSpec G mX9_isWord d 0 0 [.ref l0, .ref l1] σ (ms_ki σ) (f_X9_isWord σ l0 l1) := by
  refine ms_start (by decide +kernel) rfl rfl (Nat.le_of_ble_eq_true rfl) ?_
  show TrO G mX9_isWord d 0 0 0 0 (ms_ki σ) 0 [(0, .ref l0), (1, .ref l1)] [] σ (if (ms_i σ l0 5) = 1 then (f_J0_length_8abf5 σ l1).bind fun v1 => if ((ms_i σ l0 4) - (ms_i σ l0 3)) = v1 then f_X9_isWord_28 σ ms_fuel l0 l1 0 else some 0 else some 0)
  refine tr_aload_n (i := 0) dX9_isWord_0 rfl ?_
  refine tr_getI 9 h0 fl_X9_45 (by decide +kernel) dX9_isWord_1 ?_
  refine tr_iconst (v := 1) dX9_isWord_4 (by decide +kernel) ?_
  refine tr_icne (o := none) (tgt := 24) dX9_isWord_5 (by decide) ?_ ?_
  · refine tr_iconst (v := 0) dX9_isWord_24 (by decide +kernel) ?_
    exact tr_zret rfl (by decide +kernel) rfl (by decide) (by decide) dX9_isWord_25
  · refine tr_aload_n (i := 0) dX9_isWord_8 rfl ?_
    refine tr_getI 9 h0 fl_X9_28 (by decide +kernel) dX9_isWord_9 ?_
    refine tr_aload_n (i := 0) dX9_isWord_12 rfl ?_
    refine tr_getI 9 h0 fl_X9_42 (by decide +kernel) dX9_isWord_13 ?_
    refine tr_isub dX9_isWord_16 ?_
    refine tr_aload_n (i := 1) dX9_isWord_17 rfl ?_
    refine tr_c_i (ms_cVs (rest := [.int ((ms_i σ l0 4) - (ms_i σ l0 3))]) (al := []) (sp_J0_length_8abf5 G hG (d - 1) (by omega) σ l1 h1) rfl h1 kl_X9_64 fv_J0_length_8abf5 dX9_isWord_18 (show _ = some 0 by decide +kernel) (by omega) (Nat.le_of_ble_eq_true rfl) (by decide) (by decide)) (fun v1 => ?_)
    refine tr_iceq (o := none) (tgt := 26) dX9_isWord_21 (by decide) ?_ ?_
    · refine tr_iconst (v := 0) dX9_isWord_26 (by decide +kernel) ?_
      refine tr_istore_n (lv' := [(0, .ref l0), (1, .ref l1), (2, .int 0)]) [1, 2, 0] dX9_isWord_27 (by decide) rfl ?_
      exact t_X9_isWord_28 G hG d hd σ ms_fuel l0 l1 0 h0 h1
    · refine tr_iconst (v := 0) dX9_isWord_24 (by decide +kernel) ?_
      exact tr_zret rfl (by decide +kernel) rfl (by decide) (by decide) dX9_isWord_25
theorem dX9_fail_0 : decode cX9_fail 0 = .ok (.aload_n 0, 1) := by decide +kernel
theorem dX9_fail_1 : decode cX9_fail 1 = .ok (.getfield 19, 3) := by decide +kernel
theorem dX9_fail_4 : decode cX9_fail 4 = .ok (.ifCond .ne 16, 3) := by decide +kernel
theorem dX9_fail_7 : decode cX9_fail 7 = .ok (.aload_n 0, 1) := by decide +kernel
theorem dX9_fail_8 : decode cX9_fail 8 = .ok (.iload_n 1, 1) := by decide +kernel
theorem dX9_fail_9 : decode cX9_fail 9 = .ok (.putfield 19, 3) := by decide +kernel
theorem dX9_fail_12 : decode cX9_fail 12 = .ok (.aload_n 0, 1) := by decide +kernel
theorem dX9_fail_13 : decode cX9_fail 13 = .ok (.aload_n 0, 1) := by decide +kernel
theorem dX9_fail_14 : decode cX9_fail 14 = .ok (.getfield 42, 3) := by decide +kernel
theorem dX9_fail_17 : decode cX9_fail 17 = .ok (.putfield 22, 3) := by decide +kernel
theorem dX9_fail_20 : decode cX9_fail 20 = .ok (.aload_n 0, 1) := by decide +kernel
theorem dX9_fail_21 : decode cX9_fail 21 = .ok (.iconst 0, 1) := by decide +kernel
theorem dX9_fail_22 : decode cX9_fail 22 = .ok (.putfield 45, 3) := by decide +kernel
theorem dX9_fail_25 : decode cX9_fail 25 = .ok (.return_, 1) := by decide +kernel
set_option maxRecDepth 100000 in
theorem sp_X9_fail (G : MG) (hG : (g_l G).stackTraces = false) (d : Nat) (hd : 0 ≤ d)   (σ : MsSt) (l0 : Nat) (l1 : Int32) (h0 : ms_kd l0 = 10) : MsSpec G mX9_fail d 0 0 [.ref l0, .int l1] σ ms_wv (f_X9_fail σ l0 l1) := by
  refine ms_start (by decide +kernel) rfl rfl (Nat.le_of_ble_eq_true rfl) ?_
  show TrO G mX9_fail d 0 0 0 0 ms_wv 0 [(0, .ref l0), (1, .int l1)] [] σ (if (ms_i σ l0 7) = 0 then ms_nm (ms_si σ l0 7 l1) fun s2 => ms_nm (ms_si s2 l0 8 (ms_i s2 l0 3)) fun s3 => ms_nm (ms_si s3 l0 5 0) fun s4 => some s4 else ms_nm (ms_si σ l0 5 0) fun s1 => some s1)
  refine tr_aload_n (i := 0) dX9_fail_0 rfl ?_
  refine tr_getI 9 h0 fl_X9_19 (by decide +kernel) dX9_fail_1 ?_
  refine tr_ifne (o := none) (tgt := 20) dX9_fail_4 (by decide) ?_ ?_
  · refine tr_aload_n (i := 0) dX9_fail_20 rfl ?_
    refine tr_iconst (v := 0) dX9_fail_21 (by decide +kernel) ?_
    refine tr_putI 9 h0 fl_X9_45 (by decide +kernel) dX9_fail_22 ?_
    refine ms_ltS (fun s1 => ?_)
    exact tr_vret rfl rfl (by decide) (by decide) dX9_fail_25
  · refine tr_aload_n (i := 0) dX9_fail_7 rfl ?_
    refine tr_iload_n (i := 1) dX9_fail_8 rfl ?_
    refine tr_putI 9 h0 fl_X9_19 (by decide +kernel) dX9_fail_9 ?_
    refine ms_ltS (fun s2 => ?_)
    refine tr_aload_n (i := 0) dX9_fail_12 rfl ?_
    refine tr_aload_n (i := 0) dX9_fail_13 rfl ?_
    refine tr_getI 9 h0 fl_X9_42 (by decide +kernel) dX9_fail_14 ?_
    refine tr_putI 9 h0 fl_X9_22 (by decide +kernel) dX9_fail_17 ?_
    refine ms_ltS (fun s3 => ?_)
    refine tr_aload_n (i := 0) dX9_fail_20 rfl ?_
    refine tr_iconst (v := 0) dX9_fail_21 (by decide +kernel) ?_
    refine tr_putI 9 h0 fl_X9_45 (by decide +kernel) dX9_fail_22 ?_
    refine ms_ltS (fun s4 => ?_)
    exact tr_vret rfl rfl (by decide) (by decide) dX9_fail_25
theorem dX9_isSymbol_0 : decode cX9_isSymbol 0 = .ok (.aload_n 0, 1) := by decide +kernel
theorem dX9_isSymbol_1 : decode cX9_isSymbol 1 = .ok (.getfield 45, 3) := by decide +kernel
theorem dX9_isSymbol_4 : decode cX9_isSymbol 4 = .ok (.iconst 3, 1) := by decide +kernel
theorem dX9_isSymbol_5 : decode cX9_isSymbol 5 = .ok (.if_icmp .ne 15, 3) := by decide +kernel
theorem dX9_isSymbol_8 : decode cX9_isSymbol 8 = .ok (.aload_n 0, 1) := by decide +kernel
theorem dX9_isSymbol_9 : decode cX9_isSymbol 9 = .ok (.getfield 54, 3) := by decide +kernel
theorem dX9_isSymbol_12 : decode cX9_isSymbol 12 = .ok (.iload_n 1, 1) := by decide +kernel
theorem dX9_isSymbol_13 : decode cX9_isSymbol 13 = .ok (.if_icmp .ne 7, 3) := by decide +kernel
theorem dX9_isSymbol_16 : decode cX9_isSymbol 16 = .ok (.iconst 1, 1) := by decide +kernel
theorem dX9_isSymbol_17 : decode cX9_isSymbol 17 = .ok (.goto 4, 3) := by decide +kernel
theorem dX9_isSymbol_20 : decode cX9_isSymbol 20 = .ok (.iconst 0, 1) := by decide +kernel
theorem dX9_isSymbol_21 : decode cX9_isSymbol 21 = .ok (.ireturn, 1) := by decide +kernel
set_option maxRecDepth 100000 in
theorem sp_X9_isSymbol (G : MG) (hG : (g_l G).stackTraces = false) (d : Nat) (hd : 0 ≤ d)   (σ : MsSt) (l0 : Nat) (l1 : Int32) (h0 : ms_kd l0 = 10) : MsSpec G mX9_isSymbol d 0 0 [.ref l0, .int l1] σ (ms_ki σ) (f_X9_isSymbol σ l0 l1) := by
  refine ms_start (by decide +kernel) rfl rfl (Nat.le_of_ble_eq_true rfl) ?_
  show TrO G mX9_isSymbol d 0 0 0 0 (ms_ki σ) 0 [(0, .ref l0), (1, .int l1)] [] σ (if (ms_i σ l0 5) = 3 then if (ms_i σ l0 6) = l1 then some 1 else some 0 else some 0)
  refine tr_aload_n (i := 0) dX9_isSymbol_0 rfl ?_
  refine tr_getI 9 h0 fl_X9_45 (by decide +kernel) dX9_isSymbol_1 ?_
  refine tr_iconst (v := 3) dX9_isSymbol_4 (by decide +kernel) ?_
  refine tr_icne (o := none) (tgt := 20) dX9_isSymbol_5 (by decide) ?_ ?_
  · refine tr_iconst (v := 0) dX9_isSymbol_20 (by decide +kernel) ?_
    exact tr_zret rfl (by decide +kernel) rfl (by decide) (by decide) dX9_isSymbol_21
  · refine tr_aload_n (i := 0) dX9_isSymbol_8 rfl ?_
    refine tr_getI 9 h0 fl_X9_54 (by decide +kernel) dX9_isSymbol_9 ?_
    refine tr_iload_n (i := 1) dX9_isSymbol_12 rfl ?_
    refine tr_icne (o := none) (tgt := 20) dX9_isSymbol_13 (by decide) ?_ ?_
    · refine tr_iconst (v := 0) dX9_isSymbol_20 (by decide +kernel) ?_
      exact tr_zret rfl (by decide +kernel) rfl (by decide) (by decide) dX9_isSymbol_21
    · refine tr_iconst (v := 1) dX9_isSymbol_16 (by decide +kernel) ?_
      refine tr_goto (tgt := 21) dX9_isSymbol_17 (by decide) ?_
      exact tr_zret rfl (by decide +kernel) rfl (by decide) (by decide) dX9_isSymbol_21
theorem dX9_takeNumber_0 : decode cX9_takeNumber 0 = .ok (.aload_n 0, 1) := by decide +kernel
theorem dX9_takeNumber_1 : decode cX9_takeNumber 1 = .ok (.getfield 45, 3) := by decide +kernel
theorem dX9_takeNumber_4 : decode cX9_takeNumber 4 = .ok (.iconst 2, 1) := by decide +kernel
theorem dX9_takeNumber_5 : decode cX9_takeNumber 5 = .ok (.if_icmp .eq 11, 3) := by decide +kernel
theorem dX9_takeNumber_8 : decode cX9_takeNumber 8 = .ok (.aload_n 0, 1) := by decide +kernel
theorem dX9_takeNumber_9 : decode cX9_takeNumber 9 = .ok (.iconst 1, 1) := by decide +kernel
theorem dX9_takeNumber_10 : decode cX9_takeNumber 10 = .ok (.invokevirtual 92, 3) := by decide +kernel
theorem dX9_takeNumber_13 : decode cX9_takeNumber 13 = .ok (.goto 24, 3) := by decide +kernel
theorem dX9_takeNumber_16 : decode cX9_takeNumber 16 = .ok (.aload_n 0, 1) := by decide +kernel
theorem dX9_takeNumber_17 : decode cX9_takeNumber 17 = .ok (.getfield 54, 3) := by decide +kernel
theorem dX9_takeNumber_20 : decode cX9_takeNumber 20 = .ok (.iload_n 1, 1) := by decide +kernel
theorem dX9_takeNumber_21 : decode cX9_takeNumber 21 = .ok (.if_icmp .lt 11, 3) := by decide +kernel
theorem dX9_takeNumber_24 : decode cX9_takeNumber 24 = .ok (.aload_n 0, 1) := by decide +kernel
theorem dX9_takeNumber_25 : decode cX9_takeNumber 25 = .ok (.getfield 54, 3) := by decide +kernel
theorem dX9_takeNumber_28 : decode cX9_takeNumber 28 = .ok (.iload_n 2, 1) := by decide +kernel
theorem dX9_takeNumber_29 : decode cX9_takeNumber 29 = .ok (.if_icmp .le 8, 3) := by decide +kernel
theorem dX9_takeNumber_32 : decode cX9_takeNumber 32 = .ok (.aload_n 0, 1) := by decide +kernel
theorem dX9_takeNumber_33 : decode cX9_takeNumber 33 = .ok (.iconst 2, 1) := by decide +kernel
theorem dX9_takeNumber_34 : decode cX9_takeNumber 34 = .ok (.invokevirtual 92, 3) := by decide +kernel
theorem dX9_takeNumber_37 : decode cX9_takeNumber 37 = .ok (.aload_n 0, 1) := by decide +kernel
theorem dX9_takeNumber_38 : decode cX9_takeNumber 38 = .ok (.getfield 54, 3) := by decide +kernel
theorem dX9_takeNumber_41 : decode cX9_takeNumber 41 = .ok (.istore_n 3, 1) := by decide +kernel
theorem dX9_takeNumber_42 : decode cX9_takeNumber 42 = .ok (.aload_n 0, 1) := by decide +kernel
theorem dX9_takeNumber_43 : decode cX9_takeNumber 43 = .ok (.invokevirtual 31, 3) := by decide +kernel
theorem dX9_takeNumber_46 : decode cX9_takeNumber 46 = .ok (.iload_n 3, 1) := by decide +kernel
theorem dX9_takeNumber_47 : decode cX9_takeNumber 47 = .ok (.ireturn, 1) := by decide +kernel
set_option maxRecDepth 100000 in
theorem t_X9_takeNumber_32 (G : MG) (hG : (g_l G).stackTraces = false) (d : Nat) (hd : 2 ≤ d)    (σ : MsSt) (l0 : Nat) (h0 : ms_kd l0 = 10) : TrO G mX9_takeNumber d 0 0 0 0 ms_wi 32 [(0, .ref l0)] [] σ (f_X9_takeNumber_32 σ l0) := by
  show TrO G mX9_takeNumber d 0 0 0 0 ms_wi 32 [(0, .ref l0)] [] σ ((f_X9_fail σ l0 2).bind fun s1 => (f_X9_advance s1 l0).bind fun s2 => some ((ms_i s1 l0 6), s2))
  refine tr_aload_n (i := 0) dX9_takeNumber_32 rfl ?_
  refine tr_iconst (v := 2) dX9_takeNumber_33 (by decide +kernel) ?_
  refine tr_c_wv (ms_cV (rest := []) (al := [.int 2]) 9 (sp_X9_fail G hG (d - 1) (by omega) σ l0 2 h0) h0 (by decide +kernel) kl_X9_92 fv_X9_fail dX9_takeNumber_34 (show _ = some 1 by decide +kernel) (by omega) (Nat.le_of_ble_eq_true rfl) (by decide) (by decide)) (fun s1 => ?_)
  refine tr_aload_n (i := 0) dX9_takeNumber_37 rfl ?_
  refine tr_getI 9 h0 fl_X9_54 (by decide +kernel) dX9_takeNumber_38 ?_
  refine tr_istore_n (lv' := [(0, .ref l0), (3, .int (ms_i s1 l0 6))]) [1, 0] dX9_takeNumber_41 (by decide) rfl ?_
  refine tr_aload_n (i := 0) dX9_takeNumber_42 rfl ?_
  refine tr_c_wv (ms_cV (rest := []) (al := []) 9 (sp_X9_advance G hG (d - 1) (by omega) s1 l0 h0) h0 (by decide +kernel) kl_X9_31 fv_X9_advance dX9_takeNumber_43 (show _ = some 0 by decide +kernel) (by omega) (Nat.le_of_ble_eq_true rfl) (by decide) (by decide)) (fun s2 => ?_)
  refine tr_iload_n (i := 1) dX9_takeNumber_46 rfl ?_
  exact tr_iret rfl rfl (by decide) (by decide) dX9_takeNumber_47
set_option maxRecDepth 100000 in
theorem sp_X9_takeNumber (G : MG) (hG : (g_l G).stackTraces = false) (d : Nat) (hd : 2 ≤ d)   (σ : MsSt) (l0 : Nat) (l1 : Int32) (l2 : Int32) (h0 : ms_kd l0 = 10) : MsSpec G mX9_takeNumber d 0 0 [.ref l0, .int l1, .int l2] σ ms_wi (f_X9_takeNumber σ l0 l1 l2) := by
  refine ms_start (by decide +kernel) rfl rfl (Nat.le_of_ble_eq_true rfl) ?_
  show TrO G mX9_takeNumber d 0 0 0 0 ms_wi 0 [(0, .ref l0), (1, .int l1), (2, .int l2)] [] σ (if (ms_i σ l0 5) = 2 then if (ms_i σ l0 6) < l1 then f_X9_takeNumber_32 σ l0 else if l2 < (ms_i σ l0 6) then f_X9_takeNumber_32 σ l0 else (f_X9_advance σ l0).bind fun s3 => some ((ms_i σ l0 6), s3) else (f_X9_fail σ l0 1).bind fun s4 => (f_X9_advance s4 l0).bind fun s5 => some ((ms_i s4 l0 6), s5))
  refine tr_aload_n (i := 0) dX9_takeNumber_0 rfl ?_
  refine tr_getI 9 h0 fl_X9_45 (by decide +kernel) dX9_takeNumber_1 ?_
  refine tr_iconst (v := 2) dX9_takeNumber_4 (by decide +kernel) ?_
  refine tr_iceq (o := none) (tgt := 16) dX9_takeNumber_5 (by decide) ?_ ?_
  · refine tr_aload_n (i := 0) dX9_takeNumber_16 rfl ?_
    refine tr_getI 9 h0 fl_X9_54 (by decide +kernel) dX9_takeNumber_17 ?_
    refine tr_iload_n (i := 1) dX9_takeNumber_20 rfl ?_
    refine tr_iclt (o := none) (tgt := 32) dX9_takeNumber_21 (by decide) ?_ ?_
    · refine tr_weak [0] (lv' := [(0, .ref l0)]) rfl ?_
      exact t_X9_takeNumber_32 G hG d hd σ l0 h0
    · refine tr_aload_n (i := 0) dX9_takeNumber_24 rfl ?_
      refine tr_getI 9 h0 fl_X9_54 (by decide +kernel) dX9_takeNumber_25 ?_
      refine tr_iload_n (i := 2) dX9_takeNumber_28 rfl ?_
      refine tr_icle (o := none) (tgt := 37) dX9_takeNumber_29 (by decide) ?_ ?_
      · refine tr_aload_n (i := 0) dX9_takeNumber_37 rfl ?_
        refine tr_getI 9 h0 fl_X9_54 (by decide +kernel) dX9_takeNumber_38 ?_
        refine tr_istore_n (lv' := [(0, .ref l0), (3, .int (ms_i σ l0 6))]) [1, 0] dX9_takeNumber_41 (by decide) rfl ?_
        refine tr_aload_n (i := 0) dX9_takeNumber_42 rfl ?_
        refine tr_c_wv (ms_cV (rest := []) (al := []) 9 (sp_X9_advance G hG (d - 1) (by omega) σ l0 h0) h0 (by decide +kernel) kl_X9_31 fv_X9_advance dX9_takeNumber_43 (show _ = some 0 by decide +kernel) (by omega) (Nat.le_of_ble_eq_true rfl) (by decide) (by decide)) (fun s3 => ?_)
        refine tr_iload_n (i := 1) dX9_takeNumber_46 rfl ?_
        exact tr_iret rfl rfl (by decide) (by decide) dX9_takeNumber_47
      · refine tr_weak [0] (lv' := [(0, .ref l0)]) rfl ?_
        exact t_X9_takeNumber_32 G hG d hd σ l0 h0
  · refine tr_aload_n (i := 0) dX9_takeNumber_8 rfl ?_
    refine tr_iconst (v := 1) dX9_takeNumber_9 (by decide +kernel) ?_
    refine tr_c_wv (ms_cV (rest := []) (al := [.int 1]) 9 (sp_X9_fail G hG (d - 1) (by omega) σ l0 1 h0) h0 (by decide +kernel) kl_X9_92 fv_X9_fail dX9_takeNumber_10 (show _ = some 1 by decide +kernel) (by omega) (Nat.le_of_ble_eq_true rfl) (by decide) (by decide)) (fun s4 => ?_)
    refine tr_goto (tgt := 37) dX9_takeNumber_13 (by decide) ?_
    refine tr_aload_n (i := 0) dX9_takeNumber_37 rfl ?_
    refine tr_getI 9 h0 fl_X9_54 (by decide +kernel) dX9_takeNumber_38 ?_
    refine tr_istore_n (lv' := [(0, .ref l0), (3, .int (ms_i s4 l0 6))]) [1, 0] dX9_takeNumber_41 (by decide) rfl ?_
    refine tr_aload_n (i := 0) dX9_takeNumber_42 rfl ?_
    refine tr_c_wv (ms_cV (rest := []) (al := []) 9 (sp_X9_advance G hG (d - 1) (by omega) s4 l0 h0) h0 (by decide +kernel) kl_X9_31 fv_X9_advance dX9_takeNumber_43 (show _ = some 0 by decide +kernel) (by omega) (Nat.le_of_ble_eq_true rfl) (by decide) (by decide)) (fun s5 => ?_)
    refine tr_iload_n (i := 1) dX9_takeNumber_46 rfl ?_
    exact tr_iret rfl rfl (by decide) (by decide) dX9_takeNumber_47
theorem dX9_takeSymbol_0 : decode cX9_takeSymbol 0 = .ok (.aload_n 0, 1) := by decide +kernel
theorem dX9_takeSymbol_1 : decode cX9_takeSymbol 1 = .ok (.iload_n 1, 1) := by decide +kernel
theorem dX9_takeSymbol_2 : decode cX9_takeSymbol 2 = .ok (.invokevirtual 88, 3) := by decide +kernel
theorem dX9_takeSymbol_5 : decode cX9_takeSymbol 5 = .ok (.ifCond .ne 8, 3) := by decide +kernel
theorem dX9_takeSymbol_8 : decode cX9_takeSymbol 8 = .ok (.aload_n 0, 1) := by decide +kernel
theorem dX9_takeSymbol_9 : decode cX9_takeSymbol 9 = .ok (.iconst 1, 1) := by decide +kernel
theorem dX9_takeSymbol_10 : decode cX9_takeSymbol 10 = .ok (.invokevirtual 92, 3) := by decide +kernel
theorem dX9_takeSymbol_13 : decode cX9_takeSymbol 13 = .ok (.aload_n 0, 1) := by decide +kernel
theorem dX9_takeSymbol_14 : decode cX9_takeSymbol 14 = .ok (.invokevirtual 31, 3) := by decide +kernel
theorem dX9_takeSymbol_17 : decode cX9_takeSymbol 17 = .ok (.return_, 1) := by decide +kernel
set_option maxRecDepth 100000 in
theorem sp_X9_takeSymbol (G : MG) (hG : (g_l G).stackTraces = false) (d : Nat) (hd : 2 ≤ d)   (σ : MsSt) (l0 : Nat) (l1 : Int32) (h0 : ms_kd l0 = 10) : MsSpec G mX9_takeSymbol d 0 0 [.ref l0, .int l1] σ ms_wv (f_X9_takeSymbol σ l0 l1) := by
  refine ms_start (by decide +kernel) rfl rfl (Nat.le_of_ble_eq_true rfl) ?_
  show TrO G mX9_takeSymbol d 0 0 0 0 ms_wv 0 [(0, .ref l0), (1, .int l1)] [] σ ((f_X9_isSymbol σ l0 l1).bind fun v1 => if v1 = 0 then (f_X9_fail σ l0 1).bind fun s3 => (f_X9_advance s3 l0).bind fun s4 => some s4 else (f_X9_advance σ l0).bind fun s2 => some s2)
  refine tr_aload_n (i := 0) dX9_takeSymbol_0 rfl ?_
  refine tr_iload_n (i := 1) dX9_takeSymbol_1 rfl ?_
  refine tr_c_i (ms_cV (rest := []) (al := [.int l1]) 9 (sp_X9_isSymbol G hG (d - 1) (by omega) σ l0 l1 h0) h0 (by decide +kernel) kl_X9_88 fv_X9_isSymbol dX9_takeSymbol_2 (show _ = some 1 by decide +kernel) (by omega) (Nat.le_of_ble_eq_true rfl) (by decide) (by decide)) (fun v1 => ?_)
  refine tr_ifne (o := none) (tgt := 13) dX9_takeSymbol_5 (by decide) ?_ ?_
  · refine tr_aload_n (i := 0) dX9_takeSymbol_13 rfl ?_
    refine tr_c_wv (ms_cV (rest := []) (al := []) 9 (sp_X9_advance G hG (d - 1) (by omega) σ l0 h0) h0 (by decide +kernel) kl_X9_31 fv_X9_advance dX9_takeSymbol_14 (show _ = some 0 by decide +kernel) (by omega) (Nat.le_of_ble_eq_true rfl) (by decide) (by decide)) (fun s2 => ?_)
    exact tr_vret rfl rfl (by decide) (by decide) dX9_takeSymbol_17
  · refine tr_aload_n (i := 0) dX9_takeSymbol_8 rfl ?_
    refine tr_iconst (v := 1) dX9_takeSymbol_9 (by decide +kernel) ?_
    refine tr_c_wv (ms_cV (rest := []) (al := [.int 1]) 9 (sp_X9_fail G hG (d - 1) (by omega) σ l0 1 h0) h0 (by decide +kernel) kl_X9_92 fv_X9_fail dX9_takeSymbol_10 (show _ = some 1 by decide +kernel) (by omega) (Nat.le_of_ble_eq_true rfl) (by decide) (by decide)) (fun s3 => ?_)
    refine tr_aload_n (i := 0) dX9_takeSymbol_13 rfl ?_
    refine tr_c_wv (ms_cV (rest := []) (al := []) 9 (sp_X9_advance G hG (d - 1) (by omega) s3 l0 h0) h0 (by decide +kernel) kl_X9_31 fv_X9_advance dX9_takeSymbol_14 (show _ = some 0 by decide +kernel) (by omega) (Nat.le_of_ble_eq_true rfl) (by decide) (by decide)) (fun s4 => ?_)
    exact tr_vret rfl rfl (by decide) (by decide) dX9_takeSymbol_17
theorem dX9_takeEnd_0 : decode cX9_takeEnd 0 = .ok (.aload_n 0, 1) := by decide +kernel
theorem dX9_takeEnd_1 : decode cX9_takeEnd 1 = .ok (.getfield 45, 3) := by decide +kernel
theorem dX9_takeEnd_4 : decode cX9_takeEnd 4 = .ok (.ifCond .eq 8, 3) := by decide +kernel
theorem dX9_takeEnd_7 : decode cX9_takeEnd 7 = .ok (.aload_n 0, 1) := by decide +kernel
theorem dX9_takeEnd_8 : decode cX9_takeEnd 8 = .ok (.iconst 1, 1) := by decide +kernel
theorem dX9_takeEnd_9 : decode cX9_takeEnd 9 = .ok (.invokevirtual 92, 3) := by decide +kernel
theorem dX9_takeEnd_12 : decode cX9_takeEnd 12 = .ok (.return_, 1) := by decide +kernel
set_option maxRecDepth 100000 in
theorem sp_X9_takeEnd (G : MG) (hG : (g_l G).stackTraces = false) (d : Nat) (hd : 1 ≤ d)   (σ : MsSt) (l0 : Nat) (h0 : ms_kd l0 = 10) : MsSpec G mX9_takeEnd d 0 0 [.ref l0] σ ms_wv (f_X9_takeEnd σ l0) := by
  refine ms_start (by decide +kernel) rfl rfl (Nat.le_of_ble_eq_true rfl) ?_
  show TrO G mX9_takeEnd d 0 0 0 0 ms_wv 0 [(0, .ref l0)] [] σ (if (ms_i σ l0 5) = 0 then some σ else (f_X9_fail σ l0 1).bind fun s1 => some s1)
  refine tr_aload_n (i := 0) dX9_takeEnd_0 rfl ?_
  refine tr_getI 9 h0 fl_X9_45 (by decide +kernel) dX9_takeEnd_1 ?_
  refine tr_ifeq (o := none) (tgt := 12) dX9_takeEnd_4 (by decide) ?_ ?_
  · exact tr_vret rfl rfl (by decide) (by decide) dX9_takeEnd_12
  · refine tr_aload_n (i := 0) dX9_takeEnd_7 rfl ?_
    refine tr_iconst (v := 1) dX9_takeEnd_8 (by decide +kernel) ?_
    refine tr_c_wv (ms_cV (rest := []) (al := [.int 1]) 9 (sp_X9_fail G hG (d - 1) (by omega) σ l0 1 h0) h0 (by decide +kernel) kl_X9_92 fv_X9_fail dX9_takeEnd_9 (show _ = some 1 by decide +kernel) (by omega) (Nat.le_of_ble_eq_true rfl) (by decide) (by decide)) (fun s1 => ?_)
    exact tr_vret rfl rfl (by decide) (by decide) dX9_takeEnd_12
theorem dX9_packedName_0 : decode cX9_packedName 0 = .ok (.iconst 0, 1) := by decide +kernel
theorem dX9_packedName_1 : decode cX9_packedName 1 = .ok (.istore_n 1, 1) := by decide +kernel
theorem dX9_packedName_2 : decode cX9_packedName 2 = .ok (.iconst 0, 1) := by decide +kernel
theorem dX9_packedName_3 : decode cX9_packedName 3 = .ok (.istore_n 2, 1) := by decide +kernel
theorem dX9_packedName_4 : decode cX9_packedName 4 = .ok (.iload_n 2, 1) := by decide +kernel
theorem dX9_packedName_5 : decode cX9_packedName 5 = .ok (.iconst 4, 1) := by decide +kernel
theorem dX9_packedName_6 : decode cX9_packedName 6 = .ok (.if_icmp .ge 40, 3) := by decide +kernel
theorem dX9_packedName_9 : decode cX9_packedName 9 = .ok (.aload_n 0, 1) := by decide +kernel
theorem dX9_packedName_10 : decode cX9_packedName 10 = .ok (.getfield 42, 3) := by decide +kernel
theorem dX9_packedName_13 : decode cX9_packedName 13 = .ok (.iload_n 2, 1) := by decide +kernel
theorem dX9_packedName_14 : decode cX9_packedName 14 = .ok (.iadd, 1) := by decide +kernel
theorem dX9_packedName_15 : decode cX9_packedName 15 = .ok (.aload_n 0, 1) := by decide +kernel
theorem dX9_packedName_16 : decode cX9_packedName 16 = .ok (.getfield 28, 3) := by decide +kernel
theorem dX9_packedName_19 : decode cX9_packedName 19 = .ok (.if_icmp .ge 27, 3) := by decide +kernel
theorem dX9_packedName_22 : decode cX9_packedName 22 = .ok (.iload_n 1, 1) := by decide +kernel
theorem dX9_packedName_23 : decode cX9_packedName 23 = .ok (.aload_n 0, 1) := by decide +kernel
theorem dX9_packedName_24 : decode cX9_packedName 24 = .ok (.aload_n 0, 1) := by decide +kernel
theorem dX9_packedName_25 : decode cX9_packedName 25 = .ok (.getfield 42, 3) := by decide +kernel
theorem dX9_packedName_28 : decode cX9_packedName 28 = .ok (.iload_n 2, 1) := by decide +kernel
theorem dX9_packedName_29 : decode cX9_packedName 29 = .ok (.iadd, 1) := by decide +kernel
theorem dX9_packedName_30 : decode cX9_packedName 30 = .ok (.invokevirtual 34, 3) := by decide +kernel
theorem dX9_packedName_33 : decode cX9_packedName 33 = .ok (.bipush 8, 2) := by decide +kernel
theorem dX9_packedName_35 : decode cX9_packedName 35 = .ok (.iload_n 2, 1) := by decide +kernel
theorem dX9_packedName_36 : decode cX9_packedName 36 = .ok (.imul, 1) := by decide +kernel
theorem dX9_packedName_37 : decode cX9_packedName 37 = .ok (.ishl, 1) := by decide +kernel
theorem dX9_packedName_38 : decode cX9_packedName 38 = .ok (.ior, 1) := by decide +kernel
theorem dX9_packedName_39 : decode cX9_packedName 39 = .ok (.istore_n 1, 1) := by decide +kernel
theorem dX9_packedName_40 : decode cX9_packedName 40 = .ok (.iinc 2 1, 3) := by decide +kernel
theorem dX9_packedName_43 : decode cX9_packedName 43 = .ok (.goto (-39), 3) := by decide +kernel
theorem dX9_packedName_46 : decode cX9_packedName 46 = .ok (.iload_n 1, 1) := by decide +kernel
theorem dX9_packedName_47 : decode cX9_packedName 47 = .ok (.ireturn, 1) := by decide +kernel
set_option maxRecDepth 100000 in
theorem t_X9_packedName_4 (G : MG) (hG : (g_l G).stackTraces = false) (d : Nat) (hd : 1 ≤ d)   (σ : MsSt)  : ∀ (n : Nat) (l0 : Nat) (l1 : Int32) (l2 : Int32) (h0 : ms_kd l0 = 10), TrO G mX9_packedName d 0 0 0 0 (ms_ki σ) 4 [(0, .ref l0), (1, .int l1), (2, .int l2)] [] σ (f_X9_packedName_4 σ n l0 l1 l2) := by
  intro n
  induction n with
  | zero => exact fun _ _ _ _ => tr_none
  | succ n ih =>
    intro l0 l1 l2 h0
    show TrO G mX9_packedName d 0 0 0 0 (ms_ki σ) 4 [(0, .ref l0), (1, .int l1), (2, .int l2)] [] σ (if l2 < 4 then if ((ms_i σ l0 3) + l2) < (ms_i σ l0 4) then (f_X9_byteAt σ l0 ((ms_i σ l0 3) + l2)).bind fun v1 => (f_X9_packedName_4 σ n) l0 (l1 ||| (v1 <<< ((8 * l2) &&& 31))) (l2 + 1) else some l1 else some l1)
    refine tr_iload_n (i := 2) dX9_packedName_4 rfl ?_
    refine tr_iconst (v := 4) dX9_packedName_5 (by decide +kernel) ?_
    refine tr_icge (o := none) (tgt := 46) dX9_packedName_6 (by decide) ?_ ?_
    · refine tr_iload_n (i := 1) dX9_packedName_46 rfl ?_
      exact tr_iret rfl rfl (by decide) (by decide) dX9_packedName_47
    · refine tr_aload_n (i := 0) dX9_packedName_9 rfl ?_
      refine tr_getI 9 h0 fl_X9_42 (by decide +kernel) dX9_packedName_10 ?_
      refine tr_iload_n (i := 2) dX9_packedName_13 rfl ?_
      refine tr_iadd dX9_packedName_14 ?_
      refine tr_aload_n (i := 0) dX9_packedName_15 rfl ?_
      refine tr_getI 9 h0 fl_X9_28 (by decide +kernel) dX9_packedName_16 ?_
      refine tr_icge (o := none) (tgt := 46) dX9_packedName_19 (by decide) ?_ ?_
      · refine tr_iload_n (i := 1) dX9_packedName_46 rfl ?_
        exact tr_iret rfl rfl (by decide) (by decide) dX9_packedName_47
      · refine tr_iload_n (i := 1) dX9_packedName_22 rfl ?_
        refine tr_aload_n (i := 0) dX9_packedName_23 rfl ?_
        refine tr_aload_n (i := 0) dX9_packedName_24 rfl ?_
        refine tr_getI 9 h0 fl_X9_42 (by decide +kernel) dX9_packedName_25 ?_
        refine tr_iload_n (i := 2) dX9_packedName_28 rfl ?_
        refine tr_iadd dX9_packedName_29 ?_
        refine tr_c_i (ms_cV (rest := [.int l1]) (al := [.int ((ms_i σ l0 3) + l2)]) 9 (sp_X9_byteAt G hG (d - 1) (by omega) σ l0 ((ms_i σ l0 3) + l2) h0) h0 (by decide +kernel) kl_X9_34 fv_X9_byteAt dX9_packedName_30 (show _ = some 1 by decide +kernel) (by omega) (Nat.le_of_ble_eq_true rfl) (by decide) (by decide)) (fun v1 => ?_)
        refine tr_bipush (v := 8) dX9_packedName_33 (by decide +kernel) ?_
        refine tr_iload_n (i := 2) dX9_packedName_35 rfl ?_
        refine tr_imul dX9_packedName_36 ?_
        refine tr_ishl dX9_packedName_37 ?_
        refine tr_ior dX9_packedName_38 ?_
        refine tr_istore_n (lv' := [(0, .ref l0), (1, .int (l1 ||| (v1 <<< ((8 * l2) &&& 31)))), (2, .int l2)]) [1, 0, 2] dX9_packedName_39 (by decide) rfl ?_
        refine tr_iinc (k := 2) (v := (l2 + 1)) (lv' := [(0, .ref l0), (1, .int (l1 ||| (v1 <<< ((8 * l2) &&& 31)))), (2, .int (l2 + 1))]) [1, 2, 0] dX9_packedName_40 rfl rfl (by decide) rfl ?_
        refine tr_goto (tgt := 4) dX9_packedName_43 (by decide) ?_
        exact (fun y0 y1 y2 g0 => ih y0 y1 y2 g0) l0 (l1 ||| (v1 <<< ((8 * l2) &&& 31))) (l2 + 1) h0
set_option maxRecDepth 100000 in
theorem sp_X9_packedName (G : MG) (hG : (g_l G).stackTraces = false) (d : Nat) (hd : 1 ≤ d)   (σ : MsSt) (l0 : Nat) (h0 : ms_kd l0 = 10) : MsSpec G mX9_packedName d 0 0 [.ref l0] σ (ms_ki σ) (f_X9_packedName σ l0) := by
  refine ms_start (by decide +kernel) rfl rfl (Nat.le_of_ble_eq_true rfl) ?_
  show TrO G mX9_packedName d 0 0 0 0 (ms_ki σ) 0 [(0, .ref l0)] [] σ (f_X9_packedName_4 σ ms_fuel l0 0 0)
  refine tr_iconst (v := 0) dX9_packedName_0 (by decide +kernel) ?_
  refine tr_istore_n (lv' := [(0, .ref l0), (1, .int 0)]) [1, 0] dX9_packedName_1 (by decide) rfl ?_
  refine tr_iconst (v := 0) dX9_packedName_2 (by decide +kernel) ?_
  refine tr_istore_n (lv' := [(0, .ref l0), (1, .int 0), (2, .int 0)]) [1, 2, 0] dX9_packedName_3 (by decide) rfl ?_
  exact t_X9_packedName_4 G hG d hd σ ms_fuel l0 0 0 h0
theorem dX9_isName_0 : decode cX9_isName 0 = .ok (.aload_n 0, 1) := by decide +kernel
theorem dX9_isName_1 : decode cX9_isName 1 = .ok (.getfield 45, 3) := by decide +kernel
theorem dX9_isName_4 : decode cX9_isName 4 = .ok (.iconst 1, 1) := by decide +kernel
theorem dX9_isName_5 : decode cX9_isName 5 = .ok (.if_icmp .ne 65, 3) := by decide +kernel
theorem dX9_isName_8 : decode cX9_isName 8 = .ok (.aload_n 0, 1) := by decide +kernel
theorem dX9_isName_9 : decode cX9_isName 9 = .ok (.getfield 28, 3) := by decide +kernel
theorem dX9_isName_12 : decode cX9_isName 12 = .ok (.aload_n 0, 1) := by decide +kernel
theorem dX9_isName_13 : decode cX9_isName 13 = .ok (.getfield 42, 3) := by decide +kernel
theorem dX9_isName_16 : decode cX9_isName 16 = .ok (.isub, 1) := by decide +kernel
theorem dX9_isName_17 : decode cX9_isName 17 = .ok (.iconst 4, 1) := by decide +kernel
theorem dX9_isName_18 : decode cX9_isName 18 = .ok (.if_icmp .gt 52, 3) := by decide +kernel
theorem dX9_isName_21 : decode cX9_isName 21 = .ok (.aload_n 0, 1) := by decide +kernel
theorem dX9_isName_22 : decode cX9_isName 22 = .ok (.ldc 74, 2) := by decide +kernel
theorem dX9_isName_24 : decode cX9_isName 24 = .ok (.invokevirtual 76, 3) := by decide +kernel
theorem dX9_isName_27 : decode cX9_isName 27 = .ok (.ifCond .ne 43, 3) := by decide +kernel
theorem dX9_isName_30 : decode cX9_isName 30 = .ok (.aload_n 0, 1) := by decide +kernel
theorem dX9_isName_31 : decode cX9_isName 31 = .ok (.ldc 80, 2) := by decide +kernel
theorem dX9_isName_33 : decode cX9_isName 33 = .ok (.invokevirtual 76, 3) := by decide +kernel
theorem dX9_isName_36 : decode cX9_isName 36 = .ok (.ifCond .ne 34, 3) := by decide +kernel
theorem dX9_isName_39 : decode cX9_isName 39 = .ok (.aload_n 0, 1) := by decide +kernel
theorem dX9_isName_40 : decode cX9_isName 40 = .ok (.ldc 82, 2) := by decide +kernel
theorem dX9_isName_42 : decode cX9_isName 42 = .ok (.invokevirtual 76, 3) := by decide +kernel
theorem dX9_isName_45 : decode cX9_isName 45 = .ok (.ifCond .ne 25, 3) := by decide +kernel
theorem dX9_isName_48 : decode cX9_isName 48 = .ok (.aload_n 0, 1) := by decide +kernel
theorem dX9_isName_49 : decode cX9_isName 49 = .ok (.ldc 84, 2) := by decide +kernel
theorem dX9_isName_51 : decode cX9_isName 51 = .ok (.invokevirtual 76, 3) := by decide +kernel
theorem dX9_isName_54 : decode cX9_isName 54 = .ok (.ifCond .ne 16, 3) := by decide +kernel
theorem dX9_isName_57 : decode cX9_isName 57 = .ok (.aload_n 0, 1) := by decide +kernel
theorem dX9_isName_58 : decode cX9_isName 58 = .ok (.ldc 86, 2) := by decide +kernel
theorem dX9_isName_60 : decode cX9_isName 60 = .ok (.invokevirtual 76, 3) := by decide +kernel
theorem dX9_isName_63 : decode cX9_isName 63 = .ok (.ifCond .ne 7, 3) := by decide +kernel
theorem dX9_isName_66 : decode cX9_isName 66 = .ok (.iconst 1, 1) := by decide +kernel
theorem dX9_isName_67 : decode cX9_isName 67 = .ok (.goto 4, 3) := by decide +kernel
theorem dX9_isName_70 : decode cX9_isName 70 = .ok (.iconst 0, 1) := by decide +kernel
theorem dX9_isName_71 : decode cX9_isName 71 = .ok (.ireturn, 1) := by decide +kernel
set_option maxRecDepth 100000 in
theorem sp_X9_isName (G : MG) (hG : (g_l G).stackTraces = false) (d : Nat) (hd : 5 ≤ d)   (σ : MsSt) (l0 : Nat) (h0 : ms_kd l0 = 10) : MsSpec G mX9_isName d 0 0 [.ref l0] σ (ms_ki σ) (f_X9_isName σ l0) := by
  refine ms_start (by decide +kernel) rfl rfl (Nat.le_of_ble_eq_true rfl) ?_
  show TrO G mX9_isName d 0 0 0 0 (ms_ki σ) 0 [(0, .ref l0)] [] σ (if (ms_i σ l0 5) = 1 then if 4 < ((ms_i σ l0 4) - (ms_i σ l0 3)) then some 0 else (f_X9_isWord σ l0 604).bind fun v1 => if v1 = 0 then (f_X9_isWord σ l0 605).bind fun v2 => if v2 = 0 then (f_X9_isWord σ l0 606).bind fun v3 => if v3 = 0 then (f_X9_isWord σ l0 607).bind fun v4 => if v4 = 0 then (f_X9_isWord σ l0 608).bind fun v5 => if v5 = 0 then some 1 else some 0 else some 0 else some 0 else some 0 else some 0 else some 0)
  refine tr_aload_n (i := 0) dX9_isName_0 rfl ?_
  refine tr_getI 9 h0 fl_X9_45 (by decide +kernel) dX9_isName_1 ?_
  refine tr_iconst (v := 1) dX9_isName_4 (by decide +kernel) ?_
  refine tr_icne (o := none) (tgt := 70) dX9_isName_5 (by decide) ?_ ?_
  · refine tr_iconst (v := 0) dX9_isName_70 (by decide +kernel) ?_
    exact tr_zret rfl (by decide +kernel) rfl (by decide) (by decide) dX9_isName_71
  · refine tr_aload_n (i := 0) dX9_isName_8 rfl ?_
    refine tr_getI 9 h0 fl_X9_28 (by decide +kernel) dX9_isName_9 ?_
    refine tr_aload_n (i := 0) dX9_isName_12 rfl ?_
    refine tr_getI 9 h0 fl_X9_42 (by decide +kernel) dX9_isName_13 ?_
    refine tr_isub dX9_isName_16 ?_
    refine tr_iconst (v := 4) dX9_isName_17 (by decide +kernel) ?_
    refine tr_icgt (o := none) (tgt := 70) dX9_isName_18 (by decide) ?_ ?_
    · refine tr_iconst (v := 0) dX9_isName_70 (by decide +kernel) ?_
      exact tr_zret rfl (by decide +kernel) rfl (by decide) (by decide) dX9_isName_71
    · refine tr_aload_n (i := 0) dX9_isName_21 rfl ?_
      refine tr_ldcs 4 (tx := "hand") (by decide) (by decide +kernel) dX9_isName_22 ?_
      refine tr_c_i (ms_cV (rest := []) (al := [.ref 604]) 9 (sp_X9_isWord G hG (d - 1) (by omega) σ l0 604 h0 (⟨by decide, by decide⟩)) h0 (by decide +kernel) kl_X9_76 fv_X9_isWord dX9_isName_24 (show _ = some 1 by decide +kernel) (by omega) (Nat.le_of_ble_eq_true rfl) (by decide) (by decide)) (fun v1 => ?_)
      refine tr_ifne (o := none) (tgt := 70) dX9_isName_27 (by decide) ?_ ?_
      · refine tr_iconst (v := 0) dX9_isName_70 (by decide +kernel) ?_
        exact tr_zret rfl (by decide +kernel) rfl (by decide) (by decide) dX9_isName_71
      · refine tr_aload_n (i := 0) dX9_isName_30 rfl ?_
        refine tr_ldcs 5 (tx := "base") (by decide) (by decide +kernel) dX9_isName_31 ?_
        refine tr_c_i (ms_cV (rest := []) (al := [.ref 605]) 9 (sp_X9_isWord G hG (d - 1) (by omega) σ l0 605 h0 (⟨by decide, by decide⟩)) h0 (by decide +kernel) kl_X9_76 fv_X9_isWord dX9_isName_33 (show _ = some 1 by decide +kernel) (by omega) (Nat.le_of_ble_eq_true rfl) (by decide) (by decide)) (fun v2 => ?_)
        refine tr_ifne (o := none) (tgt := 70) dX9_isName_36 (by decide) ?_ ?_
        · refine tr_iconst (v := 0) dX9_isName_70 (by decide +kernel) ?_
          exact tr_zret rfl (by decide +kernel) rfl (by decide) (by decide) dX9_isName_71
        · refine tr_aload_n (i := 0) dX9_isName_39 rfl ?_
          refine tr_ldcs 6 (tx := "mark") (by decide) (by decide +kernel) dX9_isName_40 ?_
          refine tr_c_i (ms_cV (rest := []) (al := [.ref 606]) 9 (sp_X9_isWord G hG (d - 1) (by omega) σ l0 606 h0 (⟨by decide, by decide⟩)) h0 (by decide +kernel) kl_X9_76 fv_X9_isWord dX9_isName_42 (show _ = some 1 by decide +kernel) (by omega) (Nat.le_of_ble_eq_true rfl) (by decide) (by decide)) (fun v3 => ?_)
          refine tr_ifne (o := none) (tgt := 70) dX9_isName_45 (by decide) ?_ ?_
          · refine tr_iconst (v := 0) dX9_isName_70 (by decide +kernel) ?_
            exact tr_zret rfl (by decide +kernel) rfl (by decide) (by decide) dX9_isName_71
          · refine tr_aload_n (i := 0) dX9_isName_48 rfl ?_
            refine tr_ldcs 7 (tx := "pair") (by decide) (by decide +kernel) dX9_isName_49 ?_
            refine tr_c_i (ms_cV (rest := []) (al := [.ref 607]) 9 (sp_X9_isWord G hG (d - 1) (by omega) σ l0 607 h0 (⟨by decide, by decide⟩)) h0 (by decide +kernel) kl_X9_76 fv_X9_isWord dX9_isName_51 (show _ = some 1 by decide +kernel) (by omega) (Nat.le_of_ble_eq_true rfl) (by decide) (by decide)) (fun v4 => ?_)
            refine tr_ifne (o := none) (tgt := 70) dX9_isName_54 (by decide) ?_ ?_
            · refine tr_iconst (v := 0) dX9_isName_70 (by decide +kernel) ?_
              exact tr_zret rfl (by decide +kernel) rfl (by decide) (by decide) dX9_isName_71
            · refine tr_aload_n (i := 0) dX9_isName_57 rfl ?_
              refine tr_ldcs 8 (tx := "line") (by decide) (by decide +kernel) dX9_isName_58 ?_
              refine tr_c_i (ms_cV (rest := []) (al := [.ref 608]) 9 (sp_X9_isWord G hG (d - 1) (by omega) σ l0 608 h0 (⟨by decide, by decide⟩)) h0 (by decide +kernel) kl_X9_76 fv_X9_isWord dX9_isName_60 (show _ = some 1 by decide +kernel) (by omega) (Nat.le_of_ble_eq_true rfl) (by decide) (by decide)) (fun v5 => ?_)
              refine tr_ifne (o := none) (tgt := 70) dX9_isName_63 (by decide) ?_ ?_
              · refine tr_iconst (v := 0) dX9_isName_70 (by decide +kernel) ?_
                exact tr_zret rfl (by decide +kernel) rfl (by decide) (by decide) dX9_isName_71
              · refine tr_iconst (v := 1) dX9_isName_66 (by decide +kernel) ?_
                refine tr_goto (tgt := 71) dX9_isName_67 (by decide) ?_
                exact tr_zret rfl (by decide +kernel) rfl (by decide) (by decide) dX9_isName_71
theorem dX9_hasRoomFor_0 : decode cX9_hasRoomFor 0 = .ok (.aload_n 0, 1) := by decide +kernel
theorem dX9_hasRoomFor_1 : decode cX9_hasRoomFor 1 = .ok (.getfield 15, 3) := by decide +kernel
theorem dX9_hasRoomFor_4 : decode cX9_hasRoomFor 4 = .ok (.iload_n 1, 1) := by decide +kernel
theorem dX9_hasRoomFor_5 : decode cX9_hasRoomFor 5 = .ok (.iadd, 1) := by decide +kernel
theorem dX9_hasRoomFor_6 : decode cX9_hasRoomFor 6 = .ok (.aload_n 0, 1) := by decide +kernel
theorem dX9_hasRoomFor_7 : decode cX9_hasRoomFor 7 = .ok (.getfield 9, 3) := by decide +kernel
theorem dX9_hasRoomFor_10 : decode cX9_hasRoomFor 10 = .ok (.arraylength, 1) := by decide +kernel
theorem dX9_hasRoomFor_11 : decode cX9_hasRoomFor 11 = .ok (.if_icmp .gt 7, 3) := by decide +kernel
theorem dX9_hasRoomFor_14 : decode cX9_hasRoomFor 14 = .ok (.iconst 1, 1) := by decide +kernel
theorem dX9_hasRoomFor_15 : decode cX9_hasRoomFor 15 = .ok (.goto 4, 3) := by decide +kernel
theorem dX9_hasRoomFor_18 : decode cX9_hasRoomFor 18 = .ok (.iconst 0, 1) := by decide +kernel
theorem dX9_hasRoomFor_19 : decode cX9_hasRoomFor 19 = .ok (.ireturn, 1) := by decide +kernel
set_option maxRecDepth 100000 in
theorem sp_X9_hasRoomFor (G : MG) (hG : (g_l G).stackTraces = false) (d : Nat) (hd : 0 ≤ d)   (σ : MsSt) (l0 : Nat) (l1 : Int32) (h0 : ms_kd l0 = 10) : MsSpec G mX9_hasRoomFor d 0 0 [.ref l0, .int l1] σ (ms_ki σ) (f_X9_hasRoomFor σ l0 l1) := by
  refine ms_start (by decide +kernel) rfl rfl (Nat.le_of_ble_eq_true rfl) ?_
  show TrO G mX9_hasRoomFor d 0 0 0 0 (ms_ki σ) 0 [(0, .ref l0), (1, .int l1)] [] σ (if (Int32.ofNat (ms_ln (ms_rf l0 0))) < ((ms_i σ l0 1) + l1) then some 0 else some 1)
  refine tr_aload_n (i := 0) dX9_hasRoomFor_0 rfl ?_
  refine tr_getI 9 h0 fl_X9_15 (by decide +kernel) dX9_hasRoomFor_1 ?_
  refine tr_iload_n (i := 1) dX9_hasRoomFor_4 rfl ?_
  refine tr_iadd dX9_hasRoomFor_5 ?_
  refine tr_aload_n (i := 0) dX9_hasRoomFor_6 rfl ?_
  refine tr_getR 9 h0 fl_X9_9 (by decide +kernel) dX9_hasRoomFor_7 ?_
  refine tr_len 1 (rk_9_0 h0) (by decide) dX9_hasRoomFor_10 ?_
  refine tr_icgt (o := none) (tgt := 18) dX9_hasRoomFor_11 (by decide) ?_ ?_
  · refine tr_iconst (v := 0) dX9_hasRoomFor_18 (by decide +kernel) ?_
    exact tr_zret rfl (by decide +kernel) rfl (by decide) (by decide) dX9_hasRoomFor_19
  · refine tr_iconst (v := 1) dX9_hasRoomFor_14 (by decide +kernel) ?_
    refine tr_goto (tgt := 19) dX9_hasRoomFor_15 (by decide) ?_
    exact tr_zret rfl (by decide +kernel) rfl (by decide) (by decide) dX9_hasRoomFor_19
theorem dX9_append_0 : decode cX9_append 0 = .ok (.bipush 24, 2) := by decide +kernel
theorem dX9_append_2 : decode cX9_append 2 = .ok (.istore_n 2, 1) := by decide +kernel
theorem dX9_append_3 : decode cX9_append 3 = .ok (.iload_n 2, 1) := by decide +kernel
theorem dX9_append_4 : decode cX9_append 4 = .ok (.ifCond .lt 51, 3) := by decide +kernel
theorem dX9_append_7 : decode cX9_append 7 = .ok (.aload_n 0, 1) := by decide +kernel
theorem dX9_append_8 : decode cX9_append 8 = .ok (.getfield 15, 3) := by decide +kernel
theorem dX9_append_11 : decode cX9_append 11 = .ok (.ifCond .lt 38, 3) := by decide +kernel
theorem dX9_append_14 : decode cX9_append 14 = .ok (.aload_n 0, 1) := by decide +kernel
theorem dX9_append_15 : decode cX9_append 15 = .ok (.getfield 15, 3) := by decide +kernel
theorem dX9_append_18 : decode cX9_append 18 = .ok (.aload_n 0, 1) := by decide +kernel
theorem dX9_append_19 : decode cX9_append 19 = .ok (.getfield 9, 3) := by decide +kernel
theorem dX9_append_22 : decode cX9_append 22 = .ok (.arraylength, 1) := by decide +kernel
theorem dX9_append_23 : decode cX9_append 23 = .ok (.if_icmp .ge 26, 3) := by decide +kernel
theorem dX9_append_26 : decode cX9_append 26 = .ok (.aload_n 0, 1) := by decide +kernel
theorem dX9_append_27 : decode cX9_append 27 = .ok (.getfield 9, 3) := by decide +kernel
theorem dX9_append_30 : decode cX9_append 30 = .ok (.aload_n 0, 1) := by decide +kernel
theorem dX9_append_31 : decode cX9_append 31 = .ok (.getfield 15, 3) := by decide +kernel
theorem dX9_append_34 : decode cX9_append 34 = .ok (.iload_n 1, 1) := by decide +kernel
theorem dX9_append_35 : decode cX9_append 35 = .ok (.iload_n 2, 1) := by decide +kernel
theorem dX9_append_36 : decode cX9_append 36 = .ok (.ishr, 1) := by decide +kernel
theorem dX9_append_37 : decode cX9_append 37 = .ok (.i2b, 1) := by decide +kernel
theorem dX9_append_38 : decode cX9_append 38 = .ok (.bastore, 1) := by decide +kernel
theorem dX9_append_39 : decode cX9_append 39 = .ok (.aload_n 0, 1) := by decide +kernel
theorem dX9_append_40 : decode cX9_append 40 = .ok (.dup, 1) := by decide +kernel
theorem dX9_append_41 : decode cX9_append 41 = .ok (.getfield 15, 3) := by decide +kernel
theorem dX9_append_44 : decode cX9_append 44 = .ok (.iconst 1, 1) := by decide +kernel
theorem dX9_append_45 : decode cX9_append 45 = .ok (.iadd, 1) := by decide +kernel
theorem dX9_append_46 : decode cX9_append 46 = .ok (.putfield 15, 3) := by decide +kernel
theorem dX9_append_49 : decode cX9_append 49 = .ok (.iinc 2 (-8), 3) := by decide +kernel
theorem dX9_append_52 : decode cX9_append 52 = .ok (.goto (-49), 3) := by decide +kernel
theorem dX9_append_55 : decode cX9_append 55 = .ok (.return_, 1) := by decide +kernel
set_option maxRecDepth 100000 in
theorem t_X9_append_3 (G : MG) (hG : (g_l G).stackTraces = false) (d : Nat) (hd : 0 ≤ d)    : ∀ (n : Nat) (σ : MsSt) (l0 : Nat) (l1 : Int32) (l2 : Int32) (h0 : ms_kd l0 = 10), TrO G mX9_append d 0 0 0 0 ms_wv 3 [(0, .ref l0), (1, .int l1), (2, .int l2)] [] σ (f_X9_append_3 n σ l0 l1 l2) := by
  intro n
  induction n with
  | zero => exact fun _ _ _ _ _ => tr_none
  | succ n ih =>
    intro σ l0 l1 l2 h0
    show TrO G mX9_append d 0 0 0 0 ms_wv 3 [(0, .ref l0), (1, .int l1), (2, .int l2)] [] σ (if l2 < 0 then some σ else if (ms_i σ l0 1) < 0 then (f_X9_append_3 n) σ l0 l1 (l2 + (-8)) else if (ms_i σ l0 1) < (Int32.ofNat (ms_ln (ms_rf l0 0))) then (ms_ast σ (ms_rf l0 0) (ms_i σ l0 1) ((l1 >>> (l2 &&& 31)).toInt8.toInt32).toInt8.toInt32).bind fun s1 => ms_nm (ms_si s1 l0 1 ((ms_i s1 l0 1) + 1)) fun s2 => (f_X9_append_3 n) s2 l0 l1 (l2 + (-8)) else (f_X9_append_3 n) σ l0 l1 (l2 + (-8)))
    refine tr_iload_n (i := 2) dX9_append_3 rfl ?_
    refine tr_iflt (o := none) (tgt := 55) dX9_append_4 (by decide) ?_ ?_
    · exact tr_vret rfl rfl (by decide) (by decide) dX9_append_55
    · refine tr_aload_n (i := 0) dX9_append_7 rfl ?_
      refine tr_getI 9 h0 fl_X9_15 (by decide +kernel) dX9_append_8 ?_
      refine tr_iflt (o := none) (tgt := 49) dX9_append_11 (by decide) ?_ ?_
      · refine tr_iinc (k := 2) (v := (l2 + (-8))) (lv' := [(0, .ref l0), (1, .int l1), (2, .int (l2 + (-8)))]) [1, 2, 0] dX9_append_49 rfl rfl (by decide) rfl ?_
        refine tr_goto (tgt := 3) dX9_append_52 (by decide) ?_
        exact (fun s y0 y1 y2 g0 => ih s y0 y1 y2 g0) σ l0 l1 (l2 + (-8)) h0
      · refine tr_aload_n (i := 0) dX9_append_14 rfl ?_
        refine tr_getI 9 h0 fl_X9_15 (by decide +kernel) dX9_append_15 ?_
        refine tr_aload_n (i := 0) dX9_append_18 rfl ?_
        refine tr_getR 9 h0 fl_X9_9 (by decide +kernel) dX9_append_19 ?_
        refine tr_len 1 (rk_9_0 h0) (by decide) dX9_append_22 ?_
        refine tr_icge (o := none) (tgt := 49) dX9_append_23 (by decide) ?_ ?_
        · refine tr_iinc (k := 2) (v := (l2 + (-8))) (lv' := [(0, .ref l0), (1, .int l1), (2, .int (l2 + (-8)))]) [1, 2, 0] dX9_append_49 rfl rfl (by decide) rfl ?_
          refine tr_goto (tgt := 3) dX9_append_52 (by decide) ?_
          exact (fun s y0 y1 y2 g0 => ih s y0 y1 y2 g0) σ l0 l1 (l2 + (-8)) h0
        · refine tr_aload_n (i := 0) dX9_append_26 rfl ?_
          refine tr_getR 9 h0 fl_X9_9 (by decide +kernel) dX9_append_27 ?_
          refine tr_aload_n (i := 0) dX9_append_30 rfl ?_
          refine tr_getI 9 h0 fl_X9_15 (by decide +kernel) dX9_append_31 ?_
          refine tr_iload_n (i := 1) dX9_append_34 rfl ?_
          refine tr_iload_n (i := 2) dX9_append_35 rfl ?_
          refine tr_ishr dX9_append_36 ?_
          refine tr_i2b dX9_append_37 ?_
          refine tr_bst (rk_9_0 h0) dX9_append_38 (fun s1 => ?_)
          refine tr_aload_n (i := 0) dX9_append_39 rfl ?_
          refine tr_dup dX9_append_40 rfl ?_
          refine tr_getI 9 h0 fl_X9_15 (by decide +kernel) dX9_append_41 ?_
          refine tr_iconst (v := 1) dX9_append_44 (by decide +kernel) ?_
          refine tr_iadd dX9_append_45 ?_
          refine tr_putI 9 h0 fl_X9_15 (by decide +kernel) dX9_append_46 ?_
          refine ms_ltS (fun s2 => ?_)
          refine tr_iinc (k := 2) (v := (l2 + (-8))) (lv' := [(0, .ref l0), (1, .int l1), (2, .int (l2 + (-8)))]) [1, 2, 0] dX9_append_49 rfl rfl (by decide) rfl ?_
          refine tr_goto (tgt := 3) dX9_append_52 (by decide) ?_
          exact (fun s y0 y1 y2 g0 => ih s y0 y1 y2 g0) s2 l0 l1 (l2 + (-8)) h0
set_option maxRecDepth 100000 in
theorem sp_X9_append (G : MG) (hG : (g_l G).stackTraces = false) (d : Nat) (hd : 0 ≤ d)   (σ : MsSt) (l0 : Nat) (l1 : Int32) (h0 : ms_kd l0 = 10) : MsSpec G mX9_append d 0 0 [.ref l0, .int l1] σ ms_wv (f_X9_append σ l0 l1) := by
  refine ms_start (by decide +kernel) rfl rfl (Nat.le_of_ble_eq_true rfl) ?_
  show TrO G mX9_append d 0 0 0 0 ms_wv 0 [(0, .ref l0), (1, .int l1)] [] σ (f_X9_append_3 ms_fuel σ l0 l1 24)
  refine tr_bipush (v := 24) dX9_append_0 (by decide +kernel) ?_
  refine tr_istore_n (lv' := [(0, .ref l0), (1, .int l1), (2, .int 24)]) [1, 2, 0] dX9_append_2 (by decide) rfl ?_
  exact t_X9_append_3 G hG d hd ms_fuel σ l0 l1 24 h0
