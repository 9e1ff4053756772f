/-! J: the bytecode does what the functions say (by program: wip/whole/gen) -/
theorem dJ0_coder_7d493_0 : decode cJ0_coder_7d493 0 = .ok (.getstatic 38, 3) := by decide +kernel
theorem dJ0_coder_7d493_3 : decode cJ0_coder_7d493 3 = .ok (.ifCond .eq 10, 3) := by decide +kernel
theorem dJ0_coder_7d493_6 : decode cJ0_coder_7d493 6 = .ok (.aload_n 0, 1) := by decide +kernel
theorem dJ0_coder_7d493_7 : decode cJ0_coder_7d493 7 = .ok (.getfield 15, 3) := by decide +kernel
theorem dJ0_coder_7d493_10 : decode cJ0_coder_7d493 10 = .ok (.goto 4, 3) := by decide +kernel
theorem dJ0_coder_7d493_13 : decode cJ0_coder_7d493 13 = .ok (.iconst 1, 1) := by decide +kernel
theorem dJ0_coder_7d493_14 : decode cJ0_coder_7d493 14 = .ok (.ireturn, 1) := by decide +kernel
set_option maxRecDepth 100000 in
theorem sp_J0_coder_7d493 (G : MG) (hG : (g_l G).stackTraces = false) (d : Nat) (hd : 0 ≤ d)   (σ : MsSt) (l0 : Nat) (h0 : ms_isS l0) : MsSpec G mJ0_coder_7d493 d 0 0 [.ref l0] σ (ms_ki σ) (f_J0_coder_7d493 σ l0) := by
  refine ms_start (by decide +kernel) rfl rfl (Nat.le_of_ble_eq_true rfl) ?_
  show TrO G mJ0_coder_7d493 d 0 0 0 0 (ms_ki σ) 0 [(0, .ref l0)] [] σ (if (1 : Int32) = 0 then none else some 0)
  refine tr_gets (v := .int 1) (fun U h => h.2.2.2.2.2.1) (List.mem_of_getElem? (i := 805) (by decide +kernel)) dJ0_coder_7d493_0 ?_
  refine tr_ifeq (o := none) (tgt := 13) dJ0_coder_7d493_3 (by decide) ?_ ?_
  · exact tr_none
  · refine tr_aload_n (i := 0) dJ0_coder_7d493_6 rfl ?_
    refine tr_getSc h0 (List.mem_of_getElem? (i := 2368) (by decide +kernel)) dJ0_coder_7d493_7 ?_
    refine tr_goto (tgt := 14) dJ0_coder_7d493_10 (by decide) ?_
    exact tr_zret rfl (by decide +kernel) rfl (by decide) (by decide) dJ0_coder_7d493_14
theorem dJ0_length_8abf5_0 : decode cJ0_length_8abf5 0 = .ok (.aload_n 0, 1) := by decide +kernel
theorem dJ0_length_8abf5_1 : decode cJ0_length_8abf5 1 = .ok (.getfield 9, 3) := by decide +kernel
theorem dJ0_length_8abf5_4 : decode cJ0_length_8abf5 4 = .ok (.arraylength, 1) := by decide +kernel
theorem dJ0_length_8abf5_5 : decode cJ0_length_8abf5 5 = .ok (.aload_n 0, 1) := by decide +kernel
theorem dJ0_length_8abf5_6 : decode cJ0_length_8abf5 6 = .ok (.invokevirtual 335, 3) := by decide +kernel
theorem dJ0_length_8abf5_9 : decode cJ0_length_8abf5 9 = .ok (.ishr, 1) := by decide +kernel
theorem dJ0_length_8abf5_10 : decode cJ0_length_8abf5 10 = .ok (.ireturn, 1) := by decide +kernel
set_option maxRecDepth 100000 in
theorem sp_J0_length_8abf5 (G : MG) (hG : (g_l G).stackTraces = false) (d : Nat) (hd : 1 ≤ d)   (σ : MsSt) (l0 : Nat) (h0 : ms_isS l0) : MsSpec G mJ0_length_8abf5 d 0 0 [.ref l0] σ (ms_ki σ) (f_J0_length_8abf5 σ l0) := by
  refine ms_start (by decide +kernel) rfl rfl (Nat.le_of_ble_eq_true rfl) ?_
  show TrO G mJ0_length_8abf5 d 0 0 0 0 (ms_ki σ) 0 [(0, .ref l0)] [] σ ((f_J0_coder_7d493 σ l0).bind fun v1 => some ((Int32.ofNat (ms_txt ((200 + l0) - 200)).length) >>> (v1 &&& 31)))
  refine tr_aload_n (i := 0) dJ0_length_8abf5_0 rfl ?_
  refine tr_getSv h0 (List.mem_of_getElem? (i := 2367) (by decide +kernel)) dJ0_length_8abf5_1 ?_
  refine tr_lenB (ms_isB_of h0) dJ0_length_8abf5_4 ?_
  refine tr_aload_n (i := 0) dJ0_length_8abf5_5 rfl ?_
  refine tr_c_i (ms_cVs (rest := [.int (Int32.ofNat (ms_txt ((200 + l0) - 200)).length)]) (al := []) (sp_J0_coder_7d493 G hG (d - 1) (by omega) σ l0 h0) rfl h0 kl_J0_335 fv_J0_coder_7d493 dJ0_length_8abf5_6 (show _ = some 0 by decide +kernel) (by omega) (Nat.le_of_ble_eq_true rfl) (by decide) (by decide)) (fun v1 => ?_)
  refine tr_ishr dJ0_length_8abf5_9 ?_
  exact tr_iret rfl rfl (by decide) (by decide) dJ0_length_8abf5_10
theorem dJ0_isLatin1_aae02_0 : decode cJ0_isLatin1_aae02 0 = .ok (.getstatic 38, 3) := by decide +kernel
theorem dJ0_isLatin1_aae02_3 : decode cJ0_isLatin1_aae02 3 = .ok (.ifCond .eq 14, 3) := by decide +kernel
theorem dJ0_isLatin1_aae02_6 : decode cJ0_isLatin1_aae02 6 = .ok (.aload_n 0, 1) := by decide +kernel
theorem dJ0_isLatin1_aae02_7 : decode cJ0_isLatin1_aae02 7 = .ok (.getfield 15, 3) := by decide +kernel
theorem dJ0_isLatin1_aae02_10 : decode cJ0_isLatin1_aae02 10 = .ok (.ifCond .ne 7, 3) := by decide +kernel
theorem dJ0_isLatin1_aae02_13 : decode cJ0_isLatin1_aae02 13 = .ok (.iconst 1, 1) := by decide +kernel
theorem dJ0_isLatin1_aae02_14 : decode cJ0_isLatin1_aae02 14 = .ok (.goto 4, 3) := by decide +kernel
theorem dJ0_isLatin1_aae02_17 : decode cJ0_isLatin1_aae02 17 = .ok (.iconst 0, 1) := by decide +kernel
theorem dJ0_isLatin1_aae02_18 : decode cJ0_isLatin1_aae02 18 = .ok (.ireturn, 1) := by decide +kernel
set_option maxRecDepth 100000 in
theorem sp_J0_isLatin1_aae02 (G : MG) (hG : (g_l G).stackTraces = false) (d : Nat) (hd : 0 ≤ d)   (σ : MsSt) (l0 : Nat) (h0 : ms_isS l0) : MsSpec G mJ0_isLatin1_aae02 d 0 0 [.ref l0] σ (ms_ki σ) (f_J0_isLatin1_aae02 σ l0) := by
  refine ms_start (by decide +kernel) rfl rfl (Nat.le_of_ble_eq_true rfl) ?_
  show TrO G mJ0_isLatin1_aae02 d 0 0 0 0 (ms_ki σ) 0 [(0, .ref l0)] [] σ (if (1 : Int32) = 0 then some 0 else if (0 : Int32) = 0 then some 1 else some 0)
  refine tr_gets (v := .int 1) (fun U h => h.2.2.2.2.2.1) (List.mem_of_getElem? (i := 805) (by decide +kernel)) dJ0_isLatin1_aae02_0 ?_
  refine tr_ifeq (o := none) (tgt := 17) dJ0_isLatin1_aae02_3 (by decide) ?_ ?_
  · refine tr_iconst (v := 0) dJ0_isLatin1_aae02_17 (by decide +kernel) ?_
    exact tr_zret rfl (by decide +kernel) rfl (by decide) (by decide) dJ0_isLatin1_aae02_18
  · refine tr_aload_n (i := 0) dJ0_isLatin1_aae02_6 rfl ?_
    refine tr_getSc h0 (List.mem_of_getElem? (i := 2368) (by decide +kernel)) dJ0_isLatin1_aae02_7 ?_
    refine tr_ifne (o := none) (tgt := 17) dJ0_isLatin1_aae02_10 (by decide) ?_ ?_
    · refine tr_iconst (v := 0) dJ0_isLatin1_aae02_17 (by decide +kernel) ?_
      exact tr_zret rfl (by decide +kernel) rfl (by decide) (by decide) dJ0_isLatin1_aae02_18
    · refine tr_iconst (v := 1) dJ0_isLatin1_aae02_13 (by decide +kernel) ?_
      refine tr_goto (tgt := 18) dJ0_isLatin1_aae02_14 (by decide) ?_
      exact tr_zret rfl (by decide +kernel) rfl (by decide) (by decide) dJ0_isLatin1_aae02_18
theorem dJ3_checkIndex_8e157_0 : decode cJ3_checkIndex_8e157 0 = .ok (.iload_n 0, 1) := by decide +kernel
theorem dJ3_checkIndex_8e157_1 : decode cJ3_checkIndex_8e157 1 = .ok (.ifCond .lt 8, 3) := by decide +kernel
theorem dJ3_checkIndex_8e157_4 : decode cJ3_checkIndex_8e157 4 = .ok (.iload_n 0, 1) := by decide +kernel
theorem dJ3_checkIndex_8e157_5 : decode cJ3_checkIndex_8e157 5 = .ok (.iload_n 1, 1) := by decide +kernel
theorem dJ3_checkIndex_8e157_6 : decode cJ3_checkIndex_8e157 6 = .ok (.if_icmp .lt 10, 3) := by decide +kernel
theorem dJ3_checkIndex_8e157_9 : decode cJ3_checkIndex_8e157 9 = .ok (.aload_n 2, 1) := by decide +kernel
theorem dJ3_checkIndex_8e157_10 : decode cJ3_checkIndex_8e157 10 = .ok (.iload_n 0, 1) := by decide +kernel
theorem dJ3_checkIndex_8e157_11 : decode cJ3_checkIndex_8e157 11 = .ok (.iload_n 1, 1) := by decide +kernel
theorem dJ3_checkIndex_8e157_12 : decode cJ3_checkIndex_8e157 12 = .ok (.invokestatic 95, 3) := by decide +kernel
theorem dJ3_checkIndex_8e157_15 : decode cJ3_checkIndex_8e157 15 = .ok (.athrow, 1) := by decide +kernel
theorem dJ3_checkIndex_8e157_16 : decode cJ3_checkIndex_8e157 16 = .ok (.iload_n 0, 1) := by decide +kernel
theorem dJ3_checkIndex_8e157_17 : decode cJ3_checkIndex_8e157 17 = .ok (.ireturn, 1) := by decide +kernel
set_option maxRecDepth 100000 in
theorem sp_J3_checkIndex_8e157 (G : MG) (hG : (g_l G).stackTraces = false) (d : Nat) (hd : 0 ≤ d)   (σ : MsSt) (l0 : Int32) (l1 : Int32) : MsSpec G mJ3_checkIndex_8e157 d 0 0 [.int l0, .int l1, .retAddr 0] σ (ms_ki σ) (f_J3_checkIndex_8e157 σ l0 l1) := by
  refine ms_start (by decide +kernel) rfl rfl (Nat.le_of_ble_eq_true rfl) ?_
  show TrO G mJ3_checkIndex_8e157 d 0 0 0 0 (ms_ki σ) 0 [(0, .int l0), (1, .int l1), (2, .retAddr 0)] [] σ (if l0 < 0 then none else if l0 < l1 then some l0 else none)
  refine tr_iload_n (i := 0) dJ3_checkIndex_8e157_0 rfl ?_
  refine tr_iflt (o := none) (tgt := 9) dJ3_checkIndex_8e157_1 (by decide) ?_ ?_
  · exact tr_none
  · refine tr_iload_n (i := 0) dJ3_checkIndex_8e157_4 rfl ?_
    refine tr_iload_n (i := 1) dJ3_checkIndex_8e157_5 rfl ?_
    refine tr_iclt (o := none) (tgt := 16) dJ3_checkIndex_8e157_6 (by decide) ?_ ?_
    · refine tr_iload_n (i := 0) dJ3_checkIndex_8e157_16 rfl ?_
      exact tr_iret rfl rfl (by decide) (by decide) dJ3_checkIndex_8e157_17
    · exact tr_none
theorem dJ0_checkIndex_df160_0 : decode cJ0_checkIndex_df160 0 = .ok (.iload_n 0, 1) := by decide +kernel
theorem dJ0_checkIndex_df160_1 : decode cJ0_checkIndex_df160 1 = .ok (.iload_n 1, 1) := by decide +kernel
theorem dJ0_checkIndex_df160_2 : decode cJ0_checkIndex_df160 2 = .ok (.getstatic 1053, 3) := by decide +kernel
theorem dJ0_checkIndex_df160_5 : decode cJ0_checkIndex_df160 5 = .ok (.invokestatic 1059, 3) := by decide +kernel
theorem dJ0_checkIndex_df160_8 : decode cJ0_checkIndex_df160 8 = .ok (.pop, 1) := by decide +kernel
theorem dJ0_checkIndex_df160_9 : decode cJ0_checkIndex_df160 9 = .ok (.return_, 1) := by decide +kernel
set_option maxRecDepth 100000 in
theorem sp_J0_checkIndex_df160 (G : MG) (hG : (g_l G).stackTraces = false) (d : Nat) (hd : 1 ≤ d)   (σ : MsSt) (l0 : Int32) (l1 : Int32) : MsSpec G mJ0_checkIndex_df160 d 0 0 [.int l0, .int l1] σ (ms_kv σ) (f_J0_checkIndex_df160 σ l0 l1) := by
  refine ms_start (by decide +kernel) rfl rfl (Nat.le_of_ble_eq_true rfl) ?_
  show TrO G mJ0_checkIndex_df160 d 0 0 0 0 (ms_kv σ) 0 [(0, .int l0), (1, .int l1)] [] σ ((f_J3_checkIndex_8e157 σ l0 l1).bind fun v1 => some ())
  refine tr_iload_n (i := 0) dJ0_checkIndex_df160_0 rfl ?_
  refine tr_iload_n (i := 1) dJ0_checkIndex_df160_1 rfl ?_
  refine tr_gets (v := .retAddr 0) (fun U h => h.2.2.2.2.2.2.1) (List.mem_of_getElem? (i := 821) (by decide +kernel)) dJ0_checkIndex_df160_2 ?_
  refine tr_c_i (ms_cS (rest := []) (al := [.int l0, .int l1, .retAddr 0]) (sp_J3_checkIndex_8e157 G hG (d - 1) (by omega) σ l0 l1) kl_J0_1059 fs_J3_checkIndex_8e157 dJ0_checkIndex_df160_5 (show _ = some 3 by decide +kernel) (by omega) (Nat.le_of_ble_eq_true rfl) (by decide) (by decide)) (fun v1 => ?_)
  refine tr_pop dJ0_checkIndex_df160_8 rfl ?_
  exact tr_vret rfl rfl (by decide) (by decide) dJ0_checkIndex_df160_9
theorem dJ1_charAt_3b067_0 : decode cJ1_charAt_3b067 0 = .ok (.iload_n 1, 1) := by decide +kernel
theorem dJ1_charAt_3b067_1 : decode cJ1_charAt_3b067 1 = .ok (.aload_n 0, 1) := by decide +kernel
theorem dJ1_charAt_3b067_2 : decode cJ1_charAt_3b067 2 = .ok (.arraylength, 1) := by decide +kernel
theorem dJ1_charAt_3b067_3 : decode cJ1_charAt_3b067 3 = .ok (.invokestatic 9, 3) := by decide +kernel
theorem dJ1_charAt_3b067_6 : decode cJ1_charAt_3b067 6 = .ok (.aload_n 0, 1) := by decide +kernel
theorem dJ1_charAt_3b067_7 : decode cJ1_charAt_3b067 7 = .ok (.iload_n 1, 1) := by decide +kernel
theorem dJ1_charAt_3b067_8 : decode cJ1_charAt_3b067 8 = .ok (.baload, 1) := by decide +kernel
theorem dJ1_charAt_3b067_9 : decode cJ1_charAt_3b067 9 = .ok (.sipush 255, 3) := by decide +kernel
theorem dJ1_charAt_3b067_12 : decode cJ1_charAt_3b067 12 = .ok (.iand, 1) := by decide +kernel
theorem dJ1_charAt_3b067_13 : decode cJ1_charAt_3b067 13 = .ok (.i2c, 1) := by decide +kernel
theorem dJ1_charAt_3b067_14 : decode cJ1_charAt_3b067 14 = .ok (.ireturn, 1) := by decide +kernel
set_option maxRecDepth 100000 in
theorem sp_J1_charAt_3b067 (G : MG) (hG : (g_l G).stackTraces = false) (d : Nat) (hd : 2 ≤ d)   (σ : MsSt) (l0 : Nat) (l1 : Int32) (h0 : ms_isB l0) : MsSpec G mJ1_charAt_3b067 d 0 0 [.ref l0, .int l1] σ (ms_ki σ) (f_J1_charAt_3b067 σ l0 l1) := by
  refine ms_start (by decide +kernel) rfl rfl (Nat.le_of_ble_eq_true rfl) ?_
  show TrO G mJ1_charAt_3b067 d 0 0 0 0 (ms_ki σ) 0 [(0, .ref l0), (1, .int l1)] [] σ ((f_J0_checkIndex_df160 σ l1 (Int32.ofNat (ms_txt (l0 - 200)).length)).bind fun _ => (ms_alt l0 l1).bind fun v1 => some (((v1 &&& 255).toUInt32 % 65536).toInt32))
  refine tr_iload_n (i := 1) dJ1_charAt_3b067_0 rfl ?_
  refine tr_aload_n (i := 0) dJ1_charAt_3b067_1 rfl ?_
  refine tr_lenB h0 dJ1_charAt_3b067_2 ?_
  refine tr_c_v (ms_cS (rest := []) (al := [.int l1, .int (Int32.ofNat (ms_txt (l0 - 200)).length)]) (sp_J0_checkIndex_df160 G hG (d - 1) (by omega) σ l1 (Int32.ofNat (ms_txt (l0 - 200)).length)) kl_J1_9 fs_J0_checkIndex_df160 dJ1_charAt_3b067_3 (show _ = some 2 by decide +kernel) (by omega) (Nat.le_of_ble_eq_true rfl) (by decide) (by decide)) ?_
  refine tr_aload_n (i := 0) dJ1_charAt_3b067_6 rfl ?_
  refine tr_iload_n (i := 1) dJ1_charAt_3b067_7 rfl ?_
  refine tr_aldB h0 dJ1_charAt_3b067_8 (fun v1 => ?_)
  refine tr_sipush (v := 255) dJ1_charAt_3b067_9 (by decide +kernel) ?_
  refine tr_iand dJ1_charAt_3b067_12 ?_
  refine tr_i2c dJ1_charAt_3b067_13 ?_
  exact tr_zret rfl (pk_nc _) rfl (by decide) (by decide) dJ1_charAt_3b067_14
theorem dJ0_charAt_5068e_0 : decode cJ0_charAt_5068e 0 = .ok (.aload_n 0, 1) := by decide +kernel
theorem dJ0_charAt_5068e_1 : decode cJ0_charAt_5068e 1 = .ok (.invokevirtual 492, 3) := by decide +kernel
theorem dJ0_charAt_5068e_4 : decode cJ0_charAt_5068e 4 = .ok (.ifCond .eq 12, 3) := by decide +kernel
theorem dJ0_charAt_5068e_7 : decode cJ0_charAt_5068e 7 = .ok (.aload_n 0, 1) := by decide +kernel
theorem dJ0_charAt_5068e_8 : decode cJ0_charAt_5068e 8 = .ok (.getfield 9, 3) := by decide +kernel
theorem dJ0_charAt_5068e_11 : decode cJ0_charAt_5068e 11 = .ok (.iload_n 1, 1) := by decide +kernel
theorem dJ0_charAt_5068e_12 : decode cJ0_charAt_5068e 12 = .ok (.invokestatic 495, 3) := by decide +kernel
theorem dJ0_charAt_5068e_15 : decode cJ0_charAt_5068e 15 = .ok (.ireturn, 1) := by decide +kernel
theorem dJ0_charAt_5068e_16 : decode cJ0_charAt_5068e 16 = .ok (.aload_n 0, 1) := by decide +kernel
theorem dJ0_charAt_5068e_17 : decode cJ0_charAt_5068e 17 = .ok (.getfield 9, 3) := by decide +kernel
theorem dJ0_charAt_5068e_20 : decode cJ0_charAt_5068e 20 = .ok (.iload_n 1, 1) := by decide +kernel
theorem dJ0_charAt_5068e_21 : decode cJ0_charAt_5068e 21 = .ok (.invokestatic 498, 3) := by decide +kernel
theorem dJ0_charAt_5068e_24 : decode cJ0_charAt_5068e 24 = .ok (.ireturn, 1) := by decide +kernel
set_option maxRecDepth 100000 in
theorem sp_J0_charAt_5068e (G : MG) (hG : (g_l G).stackTraces = false) (d : Nat) (hd : 3 ≤ d)   (σ : MsSt) (l0 : Nat) (l1 : Int32) (h0 : ms_isS l0) : MsSpec G mJ0_charAt_5068e d 0 0 [.ref l0, .int l1] σ (ms_ki σ) (f_J0_charAt_5068e σ l0 l1) := by
  refine ms_start (by decide +kernel) rfl rfl (Nat.le_of_ble_eq_true rfl) ?_
  show TrO G mJ0_charAt_5068e d 0 0 0 0 (ms_ki σ) 0 [(0, .ref l0), (1, .int l1)] [] σ ((f_J0_isLatin1_aae02 σ l0).bind fun v1 => if v1 = 0 then none else (f_J1_charAt_3b067 σ (200 + l0) l1).bind fun v2 => (ms_cz v2).bind fun v3 => some v3)
  refine tr_aload_n (i := 0) dJ0_charAt_5068e_0 rfl ?_
  refine tr_c_i (ms_cVs (rest := []) (al := []) (sp_J0_isLatin1_aae02 G hG (d - 1) (by omega) σ l0 h0) rfl h0 kl_J0_492 fv_J0_isLatin1_aae02 dJ0_charAt_5068e_1 (show _ = some 0 by decide +kernel) (by omega) (Nat.le_of_ble_eq_true rfl) (by decide) (by decide)) (fun v1 => ?_)
  refine tr_ifeq (o := none) (tgt := 16) dJ0_charAt_5068e_4 (by decide) ?_ ?_
  · exact tr_none
  · refine tr_aload_n (i := 0) dJ0_charAt_5068e_7 rfl ?_
    refine tr_getSv h0 (List.mem_of_getElem? (i := 2367) (by decide +kernel)) dJ0_charAt_5068e_8 ?_
    refine tr_iload_n (i := 1) dJ0_charAt_5068e_11 rfl ?_
    refine tr_c_i (ms_cS (rest := []) (al := [.ref (200 + l0), .int l1]) (sp_J1_charAt_3b067 G hG (d - 1) (by omega) σ (200 + l0) l1 (ms_isB_of h0)) kl_J0_495 fs_J1_charAt_3b067 dJ0_charAt_5068e_12 (show _ = some 2 by decide +kernel) (by omega) (Nat.le_of_ble_eq_true rfl) (by decide) (by decide)) (fun v2 => ?_)
    exact tr_cret rfl rfl rfl (by decide) (by decide) dJ0_charAt_5068e_15
theorem dJ6_compare_7cf53_0 : decode cJ6_compare_7cf53 0 = .ok (.iload_n 0, 1) := by decide +kernel
theorem dJ6_compare_7cf53_1 : decode cJ6_compare_7cf53 1 = .ok (.iload_n 1, 1) := by decide +kernel
theorem dJ6_compare_7cf53_2 : decode cJ6_compare_7cf53 2 = .ok (.if_icmp .ge 7, 3) := by decide +kernel
theorem dJ6_compare_7cf53_5 : decode cJ6_compare_7cf53 5 = .ok (.iconst (-1), 1) := by decide +kernel
theorem dJ6_compare_7cf53_6 : decode cJ6_compare_7cf53 6 = .ok (.goto 13, 3) := by decide +kernel
theorem dJ6_compare_7cf53_9 : decode cJ6_compare_7cf53 9 = .ok (.iload_n 0, 1) := by decide +kernel
theorem dJ6_compare_7cf53_10 : decode cJ6_compare_7cf53 10 = .ok (.iload_n 1, 1) := by decide +kernel
theorem dJ6_compare_7cf53_11 : decode cJ6_compare_7cf53 11 = .ok (.if_icmp .ne 7, 3) := by decide +kernel
theorem dJ6_compare_7cf53_14 : decode cJ6_compare_7cf53 14 = .ok (.iconst 0, 1) := by decide +kernel
theorem dJ6_compare_7cf53_15 : decode cJ6_compare_7cf53 15 = .ok (.goto 4, 3) := by decide +kernel
theorem dJ6_compare_7cf53_18 : decode cJ6_compare_7cf53 18 = .ok (.iconst 1, 1) := by decide +kernel
theorem dJ6_compare_7cf53_19 : decode cJ6_compare_7cf53 19 = .ok (.ireturn, 1) := by decide +kernel
set_option maxRecDepth 100000 in
theorem sp_J6_compare_7cf53 (G : MG) (hG : (g_l G).stackTraces = false) (d : Nat) (hd : 0 ≤ d)   (σ : MsSt) (l0 : Int32) (l1 : Int32) : MsSpec G mJ6_compare_7cf53 d 0 0 [.int l0, .int l1] σ (ms_ki σ) (f_J6_compare_7cf53 σ l0 l1) := by
  refine ms_start (by decide +kernel) rfl rfl (Nat.le_of_ble_eq_true rfl) ?_
  show TrO G mJ6_compare_7cf53 d 0 0 0 0 (ms_ki σ) 0 [(0, .int l0), (1, .int l1)] [] σ (if l0 < l1 then some (-1) else if l0 = l1 then some 0 else some 1)
  refine tr_iload_n (i := 0) dJ6_compare_7cf53_0 rfl ?_
  refine tr_iload_n (i := 1) dJ6_compare_7cf53_1 rfl ?_
  refine tr_icge (o := none) (tgt := 9) dJ6_compare_7cf53_2 (by decide) ?_ ?_
  · refine tr_iload_n (i := 0) dJ6_compare_7cf53_9 rfl ?_
    refine tr_iload_n (i := 1) dJ6_compare_7cf53_10 rfl ?_
    refine tr_icne (o := none) (tgt := 18) dJ6_compare_7cf53_11 (by decide) ?_ ?_
    · refine tr_iconst (v := 1) dJ6_compare_7cf53_18 (by decide +kernel) ?_
      exact tr_iret rfl rfl (by decide) (by decide) dJ6_compare_7cf53_19
    · refine tr_iconst (v := 0) dJ6_compare_7cf53_14 (by decide +kernel) ?_
      refine tr_goto (tgt := 19) dJ6_compare_7cf53_15 (by decide) ?_
      exact tr_iret rfl rfl (by decide) (by decide) dJ6_compare_7cf53_19
  · refine tr_iconst (v := (-1)) dJ6_compare_7cf53_5 (by decide +kernel) ?_
    refine tr_goto (tgt := 19) dJ6_compare_7cf53_6 (by decide) ?_
    exact tr_iret rfl rfl (by decide) (by decide) dJ6_compare_7cf53_19
theorem dJ13_bitCount_95d88_0 : decode cJ13_bitCount_95d88 0 = .ok (.lload_n 0, 1) := by decide +kernel
theorem dJ13_bitCount_95d88_1 : decode cJ13_bitCount_95d88 1 = .ok (.lload_n 0, 1) := by decide +kernel
theorem dJ13_bitCount_95d88_2 : decode cJ13_bitCount_95d88 2 = .ok (.iconst 1, 1) := by decide +kernel
theorem dJ13_bitCount_95d88_3 : decode cJ13_bitCount_95d88 3 = .ok (.lushr, 1) := by decide +kernel
theorem dJ13_bitCount_95d88_4 : decode cJ13_bitCount_95d88 4 = .ok (.ldc2_w 314, 3) := by decide +kernel
theorem dJ13_bitCount_95d88_7 : decode cJ13_bitCount_95d88 7 = .ok (.land, 1) := by decide +kernel
theorem dJ13_bitCount_95d88_8 : decode cJ13_bitCount_95d88 8 = .ok (.lsub, 1) := by decide +kernel
theorem dJ13_bitCount_95d88_9 : decode cJ13_bitCount_95d88 9 = .ok (.lstore_n 0, 1) := by decide +kernel
theorem dJ13_bitCount_95d88_10 : decode cJ13_bitCount_95d88 10 = .ok (.lload_n 0, 1) := by decide +kernel
theorem dJ13_bitCount_95d88_11 : decode cJ13_bitCount_95d88 11 = .ok (.ldc2_w 316, 3) := by decide +kernel
theorem dJ13_bitCount_95d88_14 : decode cJ13_bitCount_95d88 14 = .ok (.land, 1) := by decide +kernel
theorem dJ13_bitCount_95d88_15 : decode cJ13_bitCount_95d88 15 = .ok (.lload_n 0, 1) := by decide +kernel
theorem dJ13_bitCount_95d88_16 : decode cJ13_bitCount_95d88 16 = .ok (.iconst 2, 1) := by decide +kernel
theorem dJ13_bitCount_95d88_17 : decode cJ13_bitCount_95d88 17 = .ok (.lushr, 1) := by decide +kernel
theorem dJ13_bitCount_95d88_18 : decode cJ13_bitCount_95d88 18 = .ok (.ldc2_w 316, 3) := by decide +kernel
theorem dJ13_bitCount_95d88_21 : decode cJ13_bitCount_95d88 21 = .ok (.land, 1) := by decide +kernel
theorem dJ13_bitCount_95d88_22 : decode cJ13_bitCount_95d88 22 = .ok (.ladd, 1) := by decide +kernel
theorem dJ13_bitCount_95d88_23 : decode cJ13_bitCount_95d88 23 = .ok (.lstore_n 0, 1) := by decide +kernel
theorem dJ13_bitCount_95d88_24 : decode cJ13_bitCount_95d88 24 = .ok (.lload_n 0, 1) := by decide +kernel
theorem dJ13_bitCount_95d88_25 : decode cJ13_bitCount_95d88 25 = .ok (.lload_n 0, 1) := by decide +kernel
theorem dJ13_bitCount_95d88_26 : decode cJ13_bitCount_95d88 26 = .ok (.iconst 4, 1) := by decide +kernel
theorem dJ13_bitCount_95d88_27 : decode cJ13_bitCount_95d88 27 = .ok (.lushr, 1) := by decide +kernel
theorem dJ13_bitCount_95d88_28 : decode cJ13_bitCount_95d88 28 = .ok (.ladd, 1) := by decide +kernel
theorem dJ13_bitCount_95d88_29 : decode cJ13_bitCount_95d88 29 = .ok (.ldc2_w 318, 3) := by decide +kernel
theorem dJ13_bitCount_95d88_32 : decode cJ13_bitCount_95d88 32 = .ok (.land, 1) := by decide +kernel
theorem dJ13_bitCount_95d88_33 : decode cJ13_bitCount_95d88 33 = .ok (.lstore_n 0, 1) := by decide +kernel
theorem dJ13_bitCount_95d88_34 : decode cJ13_bitCount_95d88 34 = .ok (.lload_n 0, 1) := by decide +kernel
theorem dJ13_bitCount_95d88_35 : decode cJ13_bitCount_95d88 35 = .ok (.lload_n 0, 1) := by decide +kernel
theorem dJ13_bitCount_95d88_36 : decode cJ13_bitCount_95d88 36 = .ok (.bipush 8, 2) := by decide +kernel
theorem dJ13_bitCount_95d88_38 : decode cJ13_bitCount_95d88 38 = .ok (.lushr, 1) := by decide +kernel
theorem dJ13_bitCount_95d88_39 : decode cJ13_bitCount_95d88 39 = .ok (.ladd, 1) := by decide +kernel
theorem dJ13_bitCount_95d88_40 : decode cJ13_bitCount_95d88 40 = .ok (.lstore_n 0, 1) := by decide +kernel
theorem dJ13_bitCount_95d88_41 : decode cJ13_bitCount_95d88 41 = .ok (.lload_n 0, 1) := by decide +kernel
theorem dJ13_bitCount_95d88_42 : decode cJ13_bitCount_95d88 42 = .ok (.lload_n 0, 1) := by decide +kernel
theorem dJ13_bitCount_95d88_43 : decode cJ13_bitCount_95d88 43 = .ok (.bipush 16, 2) := by decide +kernel
theorem dJ13_bitCount_95d88_45 : decode cJ13_bitCount_95d88 45 = .ok (.lushr, 1) := by decide +kernel
theorem dJ13_bitCount_95d88_46 : decode cJ13_bitCount_95d88 46 = .ok (.ladd, 1) := by decide +kernel
theorem dJ13_bitCount_95d88_47 : decode cJ13_bitCount_95d88 47 = .ok (.lstore_n 0, 1) := by decide +kernel
theorem dJ13_bitCount_95d88_48 : decode cJ13_bitCount_95d88 48 = .ok (.lload_n 0, 1) := by decide +kernel
theorem dJ13_bitCount_95d88_49 : decode cJ13_bitCount_95d88 49 = .ok (.lload_n 0, 1) := by decide +kernel
theorem dJ13_bitCount_95d88_50 : decode cJ13_bitCount_95d88 50 = .ok (.bipush 32, 2) := by decide +kernel
theorem dJ13_bitCount_95d88_52 : decode cJ13_bitCount_95d88 52 = .ok (.lushr, 1) := by decide +kernel
theorem dJ13_bitCount_95d88_53 : decode cJ13_bitCount_95d88 53 = .ok (.ladd, 1) := by decide +kernel
theorem dJ13_bitCount_95d88_54 : decode cJ13_bitCount_95d88 54 = .ok (.lstore_n 0, 1) := by decide +kernel
theorem dJ13_bitCount_95d88_55 : decode cJ13_bitCount_95d88 55 = .ok (.lload_n 0, 1) := by decide +kernel
theorem dJ13_bitCount_95d88_56 : decode cJ13_bitCount_95d88 56 = .ok (.l2i, 1) := by decide +kernel
theorem dJ13_bitCount_95d88_57 : decode cJ13_bitCount_95d88 57 = .ok (.bipush 127, 2) := by decide +kernel
theorem dJ13_bitCount_95d88_59 : decode cJ13_bitCount_95d88 59 = .ok (.iand, 1) := by decide +kernel
theorem dJ13_bitCount_95d88_60 : decode cJ13_bitCount_95d88 60 = .ok (.ireturn, 1) := by decide +kernel
set_option maxRecDepth 100000 in
theorem sp_J13_bitCount_95d88 (G : MG) (hG : (g_l G).stackTraces = false) (d : Nat) (hd : 0 ≤ d)   (σ : MsSt) (l0 : Int64) : MsSpec G mJ13_bitCount_95d88 d 0 0 [.long l0] σ (ms_ki σ) (f_J13_bitCount_95d88 σ l0) := by
  refine ms_start (by decide +kernel) rfl rfl (Nat.le_of_ble_eq_true rfl) ?_
  show TrO G mJ13_bitCount_95d88 d 0 0 0 0 (ms_ki σ) 0 [(0, .long l0)] [] σ (ms_nm ((l0 - (((l0.toUInt64 >>> ((1 : Int32).toInt64.toUInt64 &&& Int64.toUInt64 63)).toInt64) &&& 6148914691236517205)) : Int64) fun v1 => ms_nm (((v1 &&& 3689348814741910323) + (((v1.toUInt64 >>> ((2 : Int32).toInt64.toUInt64 &&& Int64.toUInt64 63)).toInt64) &&& 3689348814741910323)) : Int64) fun v2 => ms_nm (((v2 + ((v2.toUInt64 >>> ((4 : Int32).toInt64.toUInt64 &&& Int64.toUInt64 63)).toInt64)) &&& 1085102592571150095) : Int64) fun v3 => ms_nm ((v3 + ((v3.toUInt64 >>> ((8 : Int32).toInt64.toUInt64 &&& Int64.toUInt64 63)).toInt64)) : Int64) fun v4 => ms_nm ((v4 + ((v4.toUInt64 >>> ((16 : Int32).toInt64.toUInt64 &&& Int64.toUInt64 63)).toInt64)) : Int64) fun v5 => ms_nm ((v5 + ((v5.toUInt64 >>> ((32 : Int32).toInt64.toUInt64 &&& Int64.toUInt64 63)).toInt64)) : Int64) fun v6 => some (v6.toInt32 &&& 127))
  refine tr_lload_n (i := 0) dJ13_bitCount_95d88_0 rfl ?_
  refine tr_lload_n (i := 0) dJ13_bitCount_95d88_1 rfl ?_
  refine tr_iconst (v := 1) dJ13_bitCount_95d88_2 (by decide +kernel) ?_
  refine tr_lushr dJ13_bitCount_95d88_3 ?_
  refine tr_ldcl (v := 6148914691236517205) (List.mem_of_getElem? (i := 1588) (by decide +kernel)) dJ13_bitCount_95d88_4 ?_
  refine tr_land dJ13_bitCount_95d88_7 ?_
  refine tr_lsub dJ13_bitCount_95d88_8 ?_
  refine ms_ltJ (fun v1 => ?_)
  refine tr_lstore_n (lv' := [(0, .long v1)]) [0] dJ13_bitCount_95d88_9 (by decide) rfl ?_
  refine tr_lload_n (i := 0) dJ13_bitCount_95d88_10 rfl ?_
  refine tr_ldcl (v := 3689348814741910323) (List.mem_of_getElem? (i := 1589) (by decide +kernel)) dJ13_bitCount_95d88_11 ?_
  refine tr_land dJ13_bitCount_95d88_14 ?_
  refine tr_lload_n (i := 0) dJ13_bitCount_95d88_15 rfl ?_
  refine tr_iconst (v := 2) dJ13_bitCount_95d88_16 (by decide +kernel) ?_
  refine tr_lushr dJ13_bitCount_95d88_17 ?_
  refine tr_ldcl (v := 3689348814741910323) (List.mem_of_getElem? (i := 1589) (by decide +kernel)) dJ13_bitCount_95d88_18 ?_
  refine tr_land dJ13_bitCount_95d88_21 ?_
  refine tr_ladd dJ13_bitCount_95d88_22 ?_
  refine ms_ltJ (fun v2 => ?_)
  refine tr_lstore_n (lv' := [(0, .long v2)]) [0] dJ13_bitCount_95d88_23 (by decide) rfl ?_
  refine tr_lload_n (i := 0) dJ13_bitCount_95d88_24 rfl ?_
  refine tr_lload_n (i := 0) dJ13_bitCount_95d88_25 rfl ?_
  refine tr_iconst (v := 4) dJ13_bitCount_95d88_26 (by decide +kernel) ?_
  refine tr_lushr dJ13_bitCount_95d88_27 ?_
  refine tr_ladd dJ13_bitCount_95d88_28 ?_
  refine tr_ldcl (v := 1085102592571150095) (List.mem_of_getElem? (i := 1590) (by decide +kernel)) dJ13_bitCount_95d88_29 ?_
  refine tr_land dJ13_bitCount_95d88_32 ?_
  refine ms_ltJ (fun v3 => ?_)
  refine tr_lstore_n (lv' := [(0, .long v3)]) [0] dJ13_bitCount_95d88_33 (by decide) rfl ?_
  refine tr_lload_n (i := 0) dJ13_bitCount_95d88_34 rfl ?_
  refine tr_lload_n (i := 0) dJ13_bitCount_95d88_35 rfl ?_
  refine tr_bipush (v := 8) dJ13_bitCount_95d88_36 (by decide +kernel) ?_
  refine tr_lushr dJ13_bitCount_95d88_38 ?_
  refine tr_ladd dJ13_bitCount_95d88_39 ?_
  refine ms_ltJ (fun v4 => ?_)
  refine tr_lstore_n (lv' := [(0, .long v4)]) [0] dJ13_bitCount_95d88_40 (by decide) rfl ?_
  refine tr_lload_n (i := 0) dJ13_bitCount_95d88_41 rfl ?_
  refine tr_lload_n (i := 0) dJ13_bitCount_95d88_42 rfl ?_
  refine tr_bipush (v := 16) dJ13_bitCount_95d88_43 (by decide +kernel) ?_
  refine tr_lushr dJ13_bitCount_95d88_45 ?_
  refine tr_ladd dJ13_bitCount_95d88_46 ?_
  refine ms_ltJ (fun v5 => ?_)
  refine tr_lstore_n (lv' := [(0, .long v5)]) [0] dJ13_bitCount_95d88_47 (by decide) rfl ?_
  refine tr_lload_n (i := 0) dJ13_bitCount_95d88_48 rfl ?_
  refine tr_lload_n (i := 0) dJ13_bitCount_95d88_49 rfl ?_
  refine tr_bipush (v := 32) dJ13_bitCount_95d88_50 (by decide +kernel) ?_
  refine tr_lushr dJ13_bitCount_95d88_52 ?_
  refine tr_ladd dJ13_bitCount_95d88_53 ?_
  refine ms_ltJ (fun v6 => ?_)
  refine tr_lstore_n (lv' := [(0, .long v6)]) [0] dJ13_bitCount_95d88_54 (by decide) rfl ?_
  refine tr_lload_n (i := 0) dJ13_bitCount_95d88_55 rfl ?_
  refine tr_l2i dJ13_bitCount_95d88_56 ?_
  refine tr_bipush (v := 127) dJ13_bitCount_95d88_57 (by decide +kernel) ?_
  refine tr_iand dJ13_bitCount_95d88_59 ?_
  exact tr_iret rfl rfl (by decide) (by decide) dJ13_bitCount_95d88_60
theorem dJ6_numberOfTrailingZeros_0f7a4_0 : decode cJ6_numberOfTrailingZeros_0f7a4 0 = .ok (.iload_n 0, 1) := by decide +kernel
theorem dJ6_numberOfTrailingZeros_0f7a4_1 : decode cJ6_numberOfTrailingZeros_0f7a4 1 = .ok (.iconst (-1), 1) := by decide +kernel
theorem dJ6_numberOfTrailingZeros_0f7a4_2 : decode cJ6_numberOfTrailingZeros_0f7a4 2 = .ok (.ixor, 1) := by decide +kernel
theorem dJ6_numberOfTrailingZeros_0f7a4_3 : decode cJ6_numberOfTrailingZeros_0f7a4 3 = .ok (.iload_n 0, 1) := by decide +kernel
theorem dJ6_numberOfTrailingZeros_0f7a4_4 : decode cJ6_numberOfTrailingZeros_0f7a4 4 = .ok (.iconst 1, 1) := by decide +kernel
theorem dJ6_numberOfTrailingZeros_0f7a4_5 : decode cJ6_numberOfTrailingZeros_0f7a4 5 = .ok (.isub, 1) := by decide +kernel
theorem dJ6_numberOfTrailingZeros_0f7a4_6 : decode cJ6_numberOfTrailingZeros_0f7a4 6 = .ok (.iand, 1) := by decide +kernel
theorem dJ6_numberOfTrailingZeros_0f7a4_7 : decode cJ6_numberOfTrailingZeros_0f7a4 7 = .ok (.istore_n 0, 1) := by decide +kernel
theorem dJ6_numberOfTrailingZeros_0f7a4_8 : decode cJ6_numberOfTrailingZeros_0f7a4 8 = .ok (.iload_n 0, 1) := by decide +kernel
theorem dJ6_numberOfTrailingZeros_0f7a4_9 : decode cJ6_numberOfTrailingZeros_0f7a4 9 = .ok (.ifCond .gt 8, 3) := by decide +kernel
theorem dJ6_numberOfTrailingZeros_0f7a4_12 : decode cJ6_numberOfTrailingZeros_0f7a4 12 = .ok (.iload_n 0, 1) := by decide +kernel
theorem dJ6_numberOfTrailingZeros_0f7a4_13 : decode cJ6_numberOfTrailingZeros_0f7a4 13 = .ok (.bipush 32, 2) := by decide +kernel
theorem dJ6_numberOfTrailingZeros_0f7a4_15 : decode cJ6_numberOfTrailingZeros_0f7a4 15 = .ok (.iand, 1) := by decide +kernel
theorem dJ6_numberOfTrailingZeros_0f7a4_16 : decode cJ6_numberOfTrailingZeros_0f7a4 16 = .ok (.ireturn, 1) := by decide +kernel
theorem dJ6_numberOfTrailingZeros_0f7a4_17 : decode cJ6_numberOfTrailingZeros_0f7a4 17 = .ok (.iconst 1, 1) := by decide +kernel
theorem dJ6_numberOfTrailingZeros_0f7a4_18 : decode cJ6_numberOfTrailingZeros_0f7a4 18 = .ok (.istore_n 1, 1) := by decide +kernel
theorem dJ6_numberOfTrailingZeros_0f7a4_19 : decode cJ6_numberOfTrailingZeros_0f7a4 19 = .ok (.iload_n 0, 1) := by decide +kernel
theorem dJ6_numberOfTrailingZeros_0f7a4_20 : decode cJ6_numberOfTrailingZeros_0f7a4 20 = .ok (.ldc_w 264, 3) := by decide +kernel
theorem dJ6_numberOfTrailingZeros_0f7a4_23 : decode cJ6_numberOfTrailingZeros_0f7a4 23 = .ok (.if_icmp .le 11, 3) := by decide +kernel
theorem dJ6_numberOfTrailingZeros_0f7a4_26 : decode cJ6_numberOfTrailingZeros_0f7a4 26 = .ok (.iinc 1 16, 3) := by decide +kernel
theorem dJ6_numberOfTrailingZeros_0f7a4_29 : decode cJ6_numberOfTrailingZeros_0f7a4 29 = .ok (.iload_n 0, 1) := by decide +kernel
theorem dJ6_numberOfTrailingZeros_0f7a4_30 : decode cJ6_numberOfTrailingZeros_0f7a4 30 = .ok (.bipush 16, 2) := by decide +kernel
theorem dJ6_numberOfTrailingZeros_0f7a4_32 : decode cJ6_numberOfTrailingZeros_0f7a4 32 = .ok (.iushr, 1) := by decide +kernel
theorem dJ6_numberOfTrailingZeros_0f7a4_33 : decode cJ6_numberOfTrailingZeros_0f7a4 33 = .ok (.istore_n 0, 1) := by decide +kernel
theorem dJ6_numberOfTrailingZeros_0f7a4_34 : decode cJ6_numberOfTrailingZeros_0f7a4 34 = .ok (.iload_n 0, 1) := by decide +kernel
theorem dJ6_numberOfTrailingZeros_0f7a4_35 : decode cJ6_numberOfTrailingZeros_0f7a4 35 = .ok (.sipush 256, 3) := by decide +kernel
theorem dJ6_numberOfTrailingZeros_0f7a4_38 : decode cJ6_numberOfTrailingZeros_0f7a4 38 = .ok (.if_icmp .le 11, 3) := by decide +kernel
theorem dJ6_numberOfTrailingZeros_0f7a4_41 : decode cJ6_numberOfTrailingZeros_0f7a4 41 = .ok (.iinc 1 8, 3) := by decide +kernel
theorem dJ6_numberOfTrailingZeros_0f7a4_44 : decode cJ6_numberOfTrailingZeros_0f7a4 44 = .ok (.iload_n 0, 1) := by decide +kernel
theorem dJ6_numberOfTrailingZeros_0f7a4_45 : decode cJ6_numberOfTrailingZeros_0f7a4 45 = .ok (.bipush 8, 2) := by decide +kernel
theorem dJ6_numberOfTrailingZeros_0f7a4_47 : decode cJ6_numberOfTrailingZeros_0f7a4 47 = .ok (.iushr, 1) := by decide +kernel
theorem dJ6_numberOfTrailingZeros_0f7a4_48 : decode cJ6_numberOfTrailingZeros_0f7a4 48 = .ok (.istore_n 0, 1) := by decide +kernel
theorem dJ6_numberOfTrailingZeros_0f7a4_49 : decode cJ6_numberOfTrailingZeros_0f7a4 49 = .ok (.iload_n 0, 1) := by decide +kernel
theorem dJ6_numberOfTrailingZeros_0f7a4_50 : decode cJ6_numberOfTrailingZeros_0f7a4 50 = .ok (.bipush 16, 2) := by decide +kernel
theorem dJ6_numberOfTrailingZeros_0f7a4_52 : decode cJ6_numberOfTrailingZeros_0f7a4 52 = .ok (.if_icmp .le 10, 3) := by decide +kernel
theorem dJ6_numberOfTrailingZeros_0f7a4_55 : decode cJ6_numberOfTrailingZeros_0f7a4 55 = .ok (.iinc 1 4, 3) := by decide +kernel
theorem dJ6_numberOfTrailingZeros_0f7a4_58 : decode cJ6_numberOfTrailingZeros_0f7a4 58 = .ok (.iload_n 0, 1) := by decide +kernel
theorem dJ6_numberOfTrailingZeros_0f7a4_59 : decode cJ6_numberOfTrailingZeros_0f7a4 59 = .ok (.iconst 4, 1) := by decide +kernel
theorem dJ6_numberOfTrailingZeros_0f7a4_60 : decode cJ6_numberOfTrailingZeros_0f7a4 60 = .ok (.iushr, 1) := by decide +kernel
theorem dJ6_numberOfTrailingZeros_0f7a4_61 : decode cJ6_numberOfTrailingZeros_0f7a4 61 = .ok (.istore_n 0, 1) := by decide +kernel
theorem dJ6_numberOfTrailingZeros_0f7a4_62 : decode cJ6_numberOfTrailingZeros_0f7a4 62 = .ok (.iload_n 0, 1) := by decide +kernel
theorem dJ6_numberOfTrailingZeros_0f7a4_63 : decode cJ6_numberOfTrailingZeros_0f7a4 63 = .ok (.iconst 4, 1) := by decide +kernel
theorem dJ6_numberOfTrailingZeros_0f7a4_64 : decode cJ6_numberOfTrailingZeros_0f7a4 64 = .ok (.if_icmp .le 10, 3) := by decide +kernel
theorem dJ6_numberOfTrailingZeros_0f7a4_67 : decode cJ6_numberOfTrailingZeros_0f7a4 67 = .ok (.iinc 1 2, 3) := by decide +kernel
theorem dJ6_numberOfTrailingZeros_0f7a4_70 : decode cJ6_numberOfTrailingZeros_0f7a4 70 = .ok (.iload_n 0, 1) := by decide +kernel
theorem dJ6_numberOfTrailingZeros_0f7a4_71 : decode cJ6_numberOfTrailingZeros_0f7a4 71 = .ok (.iconst 2, 1) := by decide +kernel
theorem dJ6_numberOfTrailingZeros_0f7a4_72 : decode cJ6_numberOfTrailingZeros_0f7a4 72 = .ok (.iushr, 1) := by decide +kernel
theorem dJ6_numberOfTrailingZeros_0f7a4_73 : decode cJ6_numberOfTrailingZeros_0f7a4 73 = .ok (.istore_n 0, 1) := by decide +kernel
theorem dJ6_numberOfTrailingZeros_0f7a4_74 : decode cJ6_numberOfTrailingZeros_0f7a4 74 = .ok (.iload_n 1, 1) := by decide +kernel
theorem dJ6_numberOfTrailingZeros_0f7a4_75 : decode cJ6_numberOfTrailingZeros_0f7a4 75 = .ok (.iload_n 0, 1) := by decide +kernel
theorem dJ6_numberOfTrailingZeros_0f7a4_76 : decode cJ6_numberOfTrailingZeros_0f7a4 76 = .ok (.iconst 1, 1) := by decide +kernel
theorem dJ6_numberOfTrailingZeros_0f7a4_77 : decode cJ6_numberOfTrailingZeros_0f7a4 77 = .ok (.iushr, 1) := by decide +kernel
theorem dJ6_numberOfTrailingZeros_0f7a4_78 : decode cJ6_numberOfTrailingZeros_0f7a4 78 = .ok (.iadd, 1) := by decide +kernel
theorem dJ6_numberOfTrailingZeros_0f7a4_79 : decode cJ6_numberOfTrailingZeros_0f7a4 79 = .ok (.ireturn, 1) := by decide +kernel
set_option maxRecDepth 100000 in
theorem t_J6_numberOfTrailingZeros_0f7a4_62 (G : MG) (hG : (g_l G).stackTraces = false) (d : Nat) (hd : 0 ≤ d)   (σ : MsSt)  (l0 : Int32) (l1 : Int32) : TrO G mJ6_numberOfTrailingZeros_0f7a4 d 0 0 0 0 (ms_ki σ) 62 [(0, .int l0), (1, .int l1)] [] σ (f_J6_numberOfTrailingZeros_0f7a4_62 σ l0 l1) := by
  show TrO G mJ6_numberOfTrailingZeros_0f7a4 d 0 0 0 0 (ms_ki σ) 62 [(0, .int l0), (1, .int l1)] [] σ (if 4 < l0 then some ((l1 + 2) + ((((l0.toUInt32 >>> ((2 : Int32).toUInt32 &&& Int32.toUInt32 31)).toInt32).toUInt32 >>> ((1 : Int32).toUInt32 &&& Int32.toUInt32 31)).toInt32)) else some (l1 + ((l0.toUInt32 >>> ((1 : Int32).toUInt32 &&& Int32.toUInt32 31)).toInt32)))
  refine tr_iload_n (i := 0) dJ6_numberOfTrailingZeros_0f7a4_62 rfl ?_
  refine tr_iconst (v := 4) dJ6_numberOfTrailingZeros_0f7a4_63 (by decide +kernel) ?_
  refine tr_icle (o := none) (tgt := 74) dJ6_numberOfTrailingZeros_0f7a4_64 (by decide) ?_ ?_
  · refine tr_iload_n (i := 1) dJ6_numberOfTrailingZeros_0f7a4_74 rfl ?_
    refine tr_iload_n (i := 0) dJ6_numberOfTrailingZeros_0f7a4_75 rfl ?_
    refine tr_iconst (v := 1) dJ6_numberOfTrailingZeros_0f7a4_76 (by decide +kernel) ?_
    refine tr_iushr dJ6_numberOfTrailingZeros_0f7a4_77 ?_
    refine tr_iadd dJ6_numberOfTrailingZeros_0f7a4_78 ?_
    exact tr_iret rfl rfl (by decide) (by decide) dJ6_numberOfTrailingZeros_0f7a4_79
  · refine tr_iinc (k := 1) (v := (l1 + 2)) (lv' := [(0, .int l0), (1, .int (l1 + 2))]) [1, 0] dJ6_numberOfTrailingZeros_0f7a4_67 rfl rfl (by decide) rfl ?_
    refine tr_iload_n (i := 0) dJ6_numberOfTrailingZeros_0f7a4_70 rfl ?_
    refine tr_iconst (v := 2) dJ6_numberOfTrailingZeros_0f7a4_71 (by decide +kernel) ?_
    refine tr_iushr dJ6_numberOfTrailingZeros_0f7a4_72 ?_
    refine tr_istore_n (lv' := [(0, .int ((l0.toUInt32 >>> ((2 : Int32).toUInt32 &&& Int32.toUInt32 31)).toInt32)), (1, .int (l1 + 2))]) [0, 1] dJ6_numberOfTrailingZeros_0f7a4_73 (by decide) rfl ?_
    refine tr_iload_n (i := 1) dJ6_numberOfTrailingZeros_0f7a4_74 rfl ?_
    refine tr_iload_n (i := 0) dJ6_numberOfTrailingZeros_0f7a4_75 rfl ?_
    refine tr_iconst (v := 1) dJ6_numberOfTrailingZeros_0f7a4_76 (by decide +kernel) ?_
    refine tr_iushr dJ6_numberOfTrailingZeros_0f7a4_77 ?_
    refine tr_iadd dJ6_numberOfTrailingZeros_0f7a4_78 ?_
    exact tr_iret rfl rfl (by decide) (by decide) dJ6_numberOfTrailingZeros_0f7a4_79
set_option maxRecDepth 100000 in
theorem t_J6_numberOfTrailingZeros_0f7a4_49 (G : MG) (hG : (g_l G).stackTraces = false) (d : Nat) (hd : 0 ≤ d)   (σ : MsSt)  (l0 : Int32) (l1 : Int32) : TrO G mJ6_numberOfTrailingZeros_0f7a4 d 0 0 0 0 (ms_ki σ) 49 [(0, .int l0), (1, .int l1)] [] σ (f_J6_numberOfTrailingZeros_0f7a4_49 σ l0 l1) := by
  show TrO G mJ6_numberOfTrailingZeros_0f7a4 d 0 0 0 0 (ms_ki σ) 49 [(0, .int l0), (1, .int l1)] [] σ (if 16 < l0 then f_J6_numberOfTrailingZeros_0f7a4_62 σ ((l0.toUInt32 >>> ((4 : Int32).toUInt32 &&& Int32.toUInt32 31)).toInt32) (l1 + 4) else f_J6_numberOfTrailingZeros_0f7a4_62 σ l0 l1)
  refine tr_iload_n (i := 0) dJ6_numberOfTrailingZeros_0f7a4_49 rfl ?_
  refine tr_bipush (v := 16) dJ6_numberOfTrailingZeros_0f7a4_50 (by decide +kernel) ?_
  refine tr_icle (o := none) (tgt := 62) dJ6_numberOfTrailingZeros_0f7a4_52 (by decide) ?_ ?_
  · exact t_J6_numberOfTrailingZeros_0f7a4_62 G hG d hd σ l0 l1
  · refine tr_iinc (k := 1) (v := (l1 + 4)) (lv' := [(0, .int l0), (1, .int (l1 + 4))]) [1, 0] dJ6_numberOfTrailingZeros_0f7a4_55 rfl rfl (by decide) rfl ?_
    refine tr_iload_n (i := 0) dJ6_numberOfTrailingZeros_0f7a4_58 rfl ?_
    refine tr_iconst (v := 4) dJ6_numberOfTrailingZeros_0f7a4_59 (by decide +kernel) ?_
    refine tr_iushr dJ6_numberOfTrailingZeros_0f7a4_60 ?_
    refine tr_istore_n (lv' := [(0, .int ((l0.toUInt32 >>> ((4 : Int32).toUInt32 &&& Int32.toUInt32 31)).toInt32)), (1, .int (l1 + 4))]) [0, 1] dJ6_numberOfTrailingZeros_0f7a4_61 (by decide) rfl ?_
    exact t_J6_numberOfTrailingZeros_0f7a4_62 G hG d hd σ ((l0.toUInt32 >>> ((4 : Int32).toUInt32 &&& Int32.toUInt32 31)).toInt32) (l1 + 4)
set_option maxRecDepth 100000 in
theorem t_J6_numberOfTrailingZeros_0f7a4_34 (G : MG) (hG : (g_l G).stackTraces = false) (d : Nat) (hd : 0 ≤ d)   (σ : MsSt)  (l0 : Int32) (l1 : Int32) : TrO G mJ6_numberOfTrailingZeros_0f7a4 d 0 0 0 0 (ms_ki σ) 34 [(0, .int l0), (1, .int l1)] [] σ (f_J6_numberOfTrailingZeros_0f7a4_34 σ l0 l1) := by
  show TrO G mJ6_numberOfTrailingZeros_0f7a4 d 0 0 0 0 (ms_ki σ) 34 [(0, .int l0), (1, .int l1)] [] σ (if 256 < l0 then f_J6_numberOfTrailingZeros_0f7a4_49 σ ((l0.toUInt32 >>> ((8 : Int32).toUInt32 &&& Int32.toUInt32 31)).toInt32) (l1 + 8) else f_J6_numberOfTrailingZeros_0f7a4_49 σ l0 l1)
  refine tr_iload_n (i := 0) dJ6_numberOfTrailingZeros_0f7a4_34 rfl ?_
  refine tr_sipush (v := 256) dJ6_numberOfTrailingZeros_0f7a4_35 (by decide +kernel) ?_
  refine tr_icle (o := none) (tgt := 49) dJ6_numberOfTrailingZeros_0f7a4_38 (by decide) ?_ ?_
  · exact t_J6_numberOfTrailingZeros_0f7a4_49 G hG d hd σ l0 l1
  · refine tr_iinc (k := 1) (v := (l1 + 8)) (lv' := [(0, .int l0), (1, .int (l1 + 8))]) [1, 0] dJ6_numberOfTrailingZeros_0f7a4_41 rfl rfl (by decide) rfl ?_
    refine tr_iload_n (i := 0) dJ6_numberOfTrailingZeros_0f7a4_44 rfl ?_
    refine tr_bipush (v := 8) dJ6_numberOfTrailingZeros_0f7a4_45 (by decide +kernel) ?_
    refine tr_iushr dJ6_numberOfTrailingZeros_0f7a4_47 ?_
    refine tr_istore_n (lv' := [(0, .int ((l0.toUInt32 >>> ((8 : Int32).toUInt32 &&& Int32.toUInt32 31)).toInt32)), (1, .int (l1 + 8))]) [0, 1] dJ6_numberOfTrailingZeros_0f7a4_48 (by decide) rfl ?_
    exact t_J6_numberOfTrailingZeros_0f7a4_49 G hG d hd σ ((l0.toUInt32 >>> ((8 : Int32).toUInt32 &&& Int32.toUInt32 31)).toInt32) (l1 + 8)
set_option maxRecDepth 100000 in
theorem sp_J6_numberOfTrailingZeros_0f7a4 (G : MG) (hG : (g_l G).stackTraces = false) (d : Nat) (hd : 0 ≤ d)   (σ : MsSt) (l0 : Int32) : MsSpec G mJ6_numberOfTrailingZeros_0f7a4 d 0 0 [.int l0] σ (ms_ki σ) (f_J6_numberOfTrailingZeros_0f7a4 σ l0) := by
  refine ms_start (by decide +kernel) rfl rfl (Nat.le_of_ble_eq_true rfl) ?_
  show TrO G mJ6_numberOfTrailingZeros_0f7a4 d 0 0 0 0 (ms_ki σ) 0 [(0, .int l0)] [] σ (if 0 < ((l0 ^^^ (-1)) &&& (l0 - 1)) then if 65536 < ((l0 ^^^ (-1)) &&& (l0 - 1)) then ms_nm (((((l0 ^^^ (-1)) &&& (l0 - 1)).toUInt32 >>> ((16 : Int32).toUInt32 &&& Int32.toUInt32 31)).toInt32) : Int32) fun v1 => f_J6_numberOfTrailingZeros_0f7a4_34 σ v1 (1 + 16) else f_J6_numberOfTrailingZeros_0f7a4_34 σ ((l0 ^^^ (-1)) &&& (l0 - 1)) 1 else some (((l0 ^^^ (-1)) &&& (l0 - 1)) &&& 32))
  refine tr_iload_n (i := 0) dJ6_numberOfTrailingZeros_0f7a4_0 rfl ?_
  refine tr_iconst (v := (-1)) dJ6_numberOfTrailingZeros_0f7a4_1 (by decide +kernel) ?_
  refine tr_ixor dJ6_numberOfTrailingZeros_0f7a4_2 ?_
  refine tr_iload_n (i := 0) dJ6_numberOfTrailingZeros_0f7a4_3 rfl ?_
  refine tr_iconst (v := 1) dJ6_numberOfTrailingZeros_0f7a4_4 (by decide +kernel) ?_
  refine tr_isub dJ6_numberOfTrailingZeros_0f7a4_5 ?_
  refine tr_iand dJ6_numberOfTrailingZeros_0f7a4_6 ?_
  refine tr_istore_n (lv' := [(0, .int ((l0 ^^^ (-1)) &&& (l0 - 1)))]) [0] dJ6_numberOfTrailingZeros_0f7a4_7 (by decide) rfl ?_
  refine tr_iload_n (i := 0) dJ6_numberOfTrailingZeros_0f7a4_8 rfl ?_
  refine tr_ifgt (o := none) (tgt := 17) dJ6_numberOfTrailingZeros_0f7a4_9 (by decide) ?_ ?_
  · refine tr_iconst (v := 1) dJ6_numberOfTrailingZeros_0f7a4_17 (by decide +kernel) ?_
    refine tr_istore_n (lv' := [(0, .int ((l0 ^^^ (-1)) &&& (l0 - 1))), (1, .int 1)]) [1, 0] dJ6_numberOfTrailingZeros_0f7a4_18 (by decide) rfl ?_
    refine tr_iload_n (i := 0) dJ6_numberOfTrailingZeros_0f7a4_19 rfl ?_
    refine tr_ldciw (v := 65536) (List.mem_of_getElem? (i := 1597) (by decide +kernel)) dJ6_numberOfTrailingZeros_0f7a4_20 ?_
    refine tr_icle (o := none) (tgt := 34) dJ6_numberOfTrailingZeros_0f7a4_23 (by decide) ?_ ?_
    · exact t_J6_numberOfTrailingZeros_0f7a4_34 G hG d hd σ ((l0 ^^^ (-1)) &&& (l0 - 1)) 1
    · refine tr_iinc (k := 1) (v := (1 + 16)) (lv' := [(0, .int ((l0 ^^^ (-1)) &&& (l0 - 1))), (1, .int (1 + 16))]) [1, 0] dJ6_numberOfTrailingZeros_0f7a4_26 rfl rfl (by decide) rfl ?_
      refine tr_iload_n (i := 0) dJ6_numberOfTrailingZeros_0f7a4_29 rfl ?_
      refine tr_bipush (v := 16) dJ6_numberOfTrailingZeros_0f7a4_30 (by decide +kernel) ?_
      refine tr_iushr dJ6_numberOfTrailingZeros_0f7a4_32 ?_
      refine ms_ltI (fun v1 => ?_)
      refine tr_istore_n (lv' := [(0, .int v1), (1, .int (1 + 16))]) [0, 1] dJ6_numberOfTrailingZeros_0f7a4_33 (by decide) rfl ?_
      exact t_J6_numberOfTrailingZeros_0f7a4_34 G hG d hd σ v1 (1 + 16)
  · refine tr_iload_n (i := 0) dJ6_numberOfTrailingZeros_0f7a4_12 rfl ?_
    refine tr_bipush (v := 32) dJ6_numberOfTrailingZeros_0f7a4_13 (by decide +kernel) ?_
    refine tr_iand dJ6_numberOfTrailingZeros_0f7a4_15 ?_
    exact tr_iret rfl rfl (by decide) (by decide) dJ6_numberOfTrailingZeros_0f7a4_16
theorem dJ13_numberOfTrailingZeros_95d88_0 : decode cJ13_numberOfTrailingZeros_95d88 0 = .ok (.lload_n 0, 1) := by decide +kernel
theorem dJ13_numberOfTrailingZeros_95d88_1 : decode cJ13_numberOfTrailingZeros_95d88 1 = .ok (.l2i, 1) := by decide +kernel
theorem dJ13_numberOfTrailingZeros_95d88_2 : decode cJ13_numberOfTrailingZeros_95d88 2 = .ok (.istore_n 2, 1) := by decide +kernel
theorem dJ13_numberOfTrailingZeros_95d88_3 : decode cJ13_numberOfTrailingZeros_95d88 3 = .ok (.iload_n 2, 1) := by decide +kernel
theorem dJ13_numberOfTrailingZeros_95d88_4 : decode cJ13_numberOfTrailingZeros_95d88 4 = .ok (.ifCond .ne 17, 3) := by decide +kernel
theorem dJ13_numberOfTrailingZeros_95d88_7 : decode cJ13_numberOfTrailingZeros_95d88 7 = .ok (.bipush 32, 2) := by decide +kernel
theorem dJ13_numberOfTrailingZeros_95d88_9 : decode cJ13_numberOfTrailingZeros_95d88 9 = .ok (.lload_n 0, 1) := by decide +kernel
theorem dJ13_numberOfTrailingZeros_95d88_10 : decode cJ13_numberOfTrailingZeros_95d88 10 = .ok (.bipush 32, 2) := by decide +kernel
theorem dJ13_numberOfTrailingZeros_95d88_12 : decode cJ13_numberOfTrailingZeros_95d88 12 = .ok (.lushr, 1) := by decide +kernel
theorem dJ13_numberOfTrailingZeros_95d88_13 : decode cJ13_numberOfTrailingZeros_95d88 13 = .ok (.l2i, 1) := by decide +kernel
theorem dJ13_numberOfTrailingZeros_95d88_14 : decode cJ13_numberOfTrailingZeros_95d88 14 = .ok (.invokestatic 311, 3) := by decide +kernel
theorem dJ13_numberOfTrailingZeros_95d88_17 : decode cJ13_numberOfTrailingZeros_95d88 17 = .ok (.iadd, 1) := by decide +kernel
theorem dJ13_numberOfTrailingZeros_95d88_18 : decode cJ13_numberOfTrailingZeros_95d88 18 = .ok (.goto 7, 3) := by decide +kernel
theorem dJ13_numberOfTrailingZeros_95d88_21 : decode cJ13_numberOfTrailingZeros_95d88 21 = .ok (.iload_n 2, 1) := by decide +kernel
theorem dJ13_numberOfTrailingZeros_95d88_22 : decode cJ13_numberOfTrailingZeros_95d88 22 = .ok (.invokestatic 311, 3) := by decide +kernel
theorem dJ13_numberOfTrailingZeros_95d88_25 : decode cJ13_numberOfTrailingZeros_95d88 25 = .ok (.ireturn, 1) := by decide +kernel
set_option maxRecDepth 100000 in
theorem sp_J13_numberOfTrailingZeros_95d88 (G : MG) (hG : (g_l G).stackTraces = false) (d : Nat) (hd : 1 ≤ d)   (σ : MsSt) (l0 : Int64) : MsSpec G mJ13_numberOfTrailingZeros_95d88 d 0 0 [.long l0] σ (ms_ki σ) (f_J13_numberOfTrailingZeros_95d88 σ l0) := by
  refine ms_start (by decide +kernel) rfl rfl (Nat.le_of_ble_eq_true rfl) ?_
  show TrO G mJ13_numberOfTrailingZeros_95d88 d 0 0 0 0 (ms_ki σ) 0 [(0, .long l0)] [] σ (if l0.toInt32 = 0 then (f_J6_numberOfTrailingZeros_0f7a4 σ (((l0.toUInt64 >>> ((32 : Int32).toInt64.toUInt64 &&& Int64.toUInt64 63)).toInt64).toInt32)).bind fun v2 => some (32 + v2) else (f_J6_numberOfTrailingZeros_0f7a4 σ l0.toInt32).bind fun v1 => some v1)
  refine tr_lload_n (i := 0) dJ13_numberOfTrailingZeros_95d88_0 rfl ?_
  refine tr_l2i dJ13_numberOfTrailingZeros_95d88_1 ?_
  refine tr_istore_n (lv' := [(0, .long l0), (2, .int l0.toInt32)]) [1, 0] dJ13_numberOfTrailingZeros_95d88_2 (by decide) rfl ?_
  refine tr_iload_n (i := 1) dJ13_numberOfTrailingZeros_95d88_3 rfl ?_
  refine tr_ifne (o := none) (tgt := 21) dJ13_numberOfTrailingZeros_95d88_4 (by decide) ?_ ?_
  · refine tr_iload_n (i := 1) dJ13_numberOfTrailingZeros_95d88_21 rfl ?_
    refine tr_c_i (ms_cS (rest := []) (al := [.int l0.toInt32]) (sp_J6_numberOfTrailingZeros_0f7a4 G hG (d - 1) (by omega) σ l0.toInt32) kl_J13_311 fs_J6_numberOfTrailingZeros_0f7a4 dJ13_numberOfTrailingZeros_95d88_22 (show _ = some 1 by decide +kernel) (by omega) (Nat.le_of_ble_eq_true rfl) (by decide) (by decide)) (fun v1 => ?_)
    exact tr_iret rfl rfl (by decide) (by decide) dJ13_numberOfTrailingZeros_95d88_25
  · refine tr_bipush (v := 32) dJ13_numberOfTrailingZeros_95d88_7 (by decide +kernel) ?_
    refine tr_lload_n (i := 0) dJ13_numberOfTrailingZeros_95d88_9 rfl ?_
    refine tr_bipush (v := 32) dJ13_numberOfTrailingZeros_95d88_10 (by decide +kernel) ?_
    refine tr_lushr dJ13_numberOfTrailingZeros_95d88_12 ?_
    refine tr_l2i dJ13_numberOfTrailingZeros_95d88_13 ?_
    refine tr_c_i (ms_cS (rest := [.int 32]) (al := [.int (((l0.toUInt64 >>> ((32 : Int32).toInt64.toUInt64 &&& Int64.toUInt64 63)).toInt64).toInt32)]) (sp_J6_numberOfTrailingZeros_0f7a4 G hG (d - 1) (by omega) σ (((l0.toUInt64 >>> ((32 : Int32).toInt64.toUInt64 &&& Int64.toUInt64 63)).toInt64).toInt32)) kl_J13_311 fs_J6_numberOfTrailingZeros_0f7a4 dJ13_numberOfTrailingZeros_95d88_14 (show _ = some 1 by decide +kernel) (by omega) (Nat.le_of_ble_eq_true rfl) (by decide) (by decide)) (fun v2 => ?_)
    refine tr_iadd dJ13_numberOfTrailingZeros_95d88_17 ?_
    refine tr_goto (tgt := 25) dJ13_numberOfTrailingZeros_95d88_18 (by decide) ?_
    exact tr_iret rfl rfl (by decide) (by decide) dJ13_numberOfTrailingZeros_95d88_25
