/-! the loop, by program -/
def f_law_28 (L : Nat) (xs : Nat → Int32) : Nat → MsSt → Int32 → Option (Int32 × MsSt)
  | 0 => fun _ _ => none
  | n + 1 => fun σ l5 =>
    if ((Int32.ofNat L) - 6) < l5 then
      some (1, σ)
    else
      (ms_xld L xs l5).bind fun v465 =>
      if (v465 &&& 63) = 0 then
        f_law_236 L xs (fun s x => f_law_28 L xs n s (x + 6)) σ l5
      else
      if (v465 &&& 63) = 1 then
        f_law_309 L xs (fun s x => f_law_28 L xs n s (x + 6)) σ l5
      else
      if (v465 &&& 63) = 2 then
        f_law_365 L xs (fun s x => f_law_28 L xs n s (x + 6)) σ l5
      else
      if (v465 &&& 63) = 3 then
        f_law_378 L xs (fun s x => f_law_28 L xs n s (x + 6)) σ l5
      else
      if (v465 &&& 63) = 4 then
        f_law_434 L xs (fun s x => f_law_28 L xs n s (x + 6)) σ l5
      else
      if (v465 &&& 63) = 5 then
        f_law_502 L xs (fun s x => f_law_28 L xs n s (x + 6)) σ l5
      else
      if (v465 &&& 63) = 6 then
        f_law_570 L xs (fun s x => f_law_28 L xs n s (x + 6)) σ l5
      else
      if (v465 &&& 63) = 7 then
        f_law_638 L xs (fun s x => f_law_28 L xs n s (x + 6)) σ l5
      else
      if (v465 &&& 63) = 8 then
        f_law_706 L xs (fun s x => f_law_28 L xs n s (x + 6)) σ l5
      else
      if (v465 &&& 63) = 9 then
        f_law_762 L xs (fun s x => f_law_28 L xs n s (x + 6)) σ l5
      else
      if (v465 &&& 63) = 10 then
        f_law_818 L xs (fun s x => f_law_28 L xs n s (x + 6)) σ l5
      else
      if (v465 &&& 63) = 11 then
        f_law_886 L xs (fun s x => f_law_28 L xs n s (x + 6)) σ l5
      else
      if (v465 &&& 63) = 12 then
        f_law_966 L xs (fun s x => f_law_28 L xs n s (x + 6)) σ l5
      else
      if (v465 &&& 63) = 13 then
        f_law_1034 L xs (fun s x => f_law_28 L xs n s (x + 6)) σ l5
      else
      if (v465 &&& 63) = 14 then
        f_law_1102 L xs (fun s x => f_law_28 L xs n s (x + 6)) σ l5
      else
      if (v465 &&& 63) = 15 then
        f_law_1182 L xs (fun s x => f_law_28 L xs n s (x + 6)) σ l5
      else
      if (v465 &&& 63) = 16 then
        f_law_1274 L xs (fun s x => f_law_28 L xs n s (x + 6)) σ l5
      else
      if (v465 &&& 63) = 17 then
        f_law_1341 L xs (fun s x => f_law_28 L xs n s (x + 6)) σ l5
      else
      if (v465 &&& 63) = 18 then
        f_law_1416 L xs (fun s x => f_law_28 L xs n s (x + 6)) σ l5
      else
      if (v465 &&& 63) = 19 then
        f_law_1472 L xs (fun s x => f_law_28 L xs n s (x + 6)) σ l5
      else
      if (v465 &&& 63) = 20 then
        f_law_1540 L xs (fun s x => f_law_28 L xs n s (x + 6)) σ l5
      else
      if (v465 &&& 63) = 21 then
        f_law_1615 L xs (fun s x => f_law_28 L xs n s (x + 6)) σ l5
      else
      if (v465 &&& 63) = 22 then
        f_law_1711 L xs (fun s x => f_law_28 L xs n s (x + 6)) σ l5
      else
      if (v465 &&& 63) = 23 then
        f_law_1819 L xs (fun s x => f_law_28 L xs n s (x + 6)) σ l5
      else
      if (v465 &&& 63) = 24 then
        f_law_1887 L xs (fun s x => f_law_28 L xs n s (x + 6)) σ l5
      else
      if (v465 &&& 63) = 25 then
        f_law_1955 L xs (fun s x => f_law_28 L xs n s (x + 6)) σ l5
      else
      if (v465 &&& 63) = 26 then
        f_law_2032 L xs (fun s x => f_law_28 L xs n s (x + 6)) σ l5
      else
      if (v465 &&& 63) = 27 then
        f_law_2110 L xs (fun s x => f_law_28 L xs n s (x + 6)) σ l5
      else
      if (v465 &&& 63) = 28 then
        f_law_2166 L xs (fun s x => f_law_28 L xs n s (x + 6)) σ l5
      else
      if (v465 &&& 63) = 29 then
        f_law_2246 L xs (fun s x => f_law_28 L xs n s (x + 6)) σ l5
      else
      if (v465 &&& 63) = 30 then
        f_law_2326 L xs (fun s x => f_law_28 L xs n s (x + 6)) σ l5
      else
      if (v465 &&& 63) = 31 then
        f_law_2406 L xs (fun s x => f_law_28 L xs n s (x + 6)) σ l5
      else
      if (v465 &&& 63) = 32 then
        f_law_2486 L xs (fun s x => f_law_28 L xs n s (x + 6)) σ l5
      else
      if (v465 &&& 63) = 33 then
        f_law_2542 L xs (fun s x => f_law_28 L xs n s (x + 6)) σ l5
      else
      if (v465 &&& 63) = 34 then
        f_law_2598 L xs (fun s x => f_law_28 L xs n s (x + 6)) σ l5
      else
      if (v465 &&& 63) = 35 then
        f_law_2666 L xs (fun s x => f_law_28 L xs n s (x + 6)) σ l5
      else
      if (v465 &&& 63) = 36 then
        f_law_2734 L xs (fun s x => f_law_28 L xs n s (x + 6)) σ l5
      else
      if (v465 &&& 63) = 37 then
        f_law_2818 L xs (fun s x => f_law_28 L xs n s (x + 6)) σ l5
      else
      if (v465 &&& 63) = 38 then
        f_law_2886 L xs (fun s x => f_law_28 L xs n s (x + 6)) σ l5
      else
      if (v465 &&& 63) = 39 then
        f_law_2911 L xs (fun s x => f_law_28 L xs n s (x + 6)) σ l5
      else
      if (v465 &&& 63) = 40 then
        f_law_2924 L xs (fun s x => f_law_28 L xs n s (x + 6)) σ l5
      else
      if (v465 &&& 63) = 41 then
        f_law_2937 L xs (fun s x => f_law_28 L xs n s (x + 6)) σ l5
      else
      if (v465 &&& 63) = 42 then
        f_law_2948 L xs (fun s x => f_law_28 L xs n s (x + 6)) σ l5
      else
      if (v465 &&& 63) = 43 then
        f_law_2961 L xs (fun s x => f_law_28 L xs n s (x + 6)) σ l5
      else
      (fun s x => f_law_28 L xs n s (x + 6)) σ l5
set_option maxRecDepth 100000 in
theorem t_law_28 (G : MG) (hG : (g_l G).stackTraces = false) (d : Nat) (hd : 36 ≤ d) (mc ms L : Nat) (xs : Nat → Int32) (hL : L = g_L G) (hxs : xs = g_xs G) : ∀ (n cu su : Nat), cu + 4 * n ≤ mc → su + 24 * n ≤ ms → ∀ (σ : MsSt) (l5 : Int32), TrO G mL_law d mc ms cu su ms_wi 28 [(0, .ref 700), (1, .ref 0), (2, .ref 493), (3, .ref 517), (4, .ref 518), (5, .int l5)] [] σ (f_law_28 L xs n σ l5) := by
  intro n
  induction n with
  | zero => exact fun _ _ _ _ _ _ => tr_none
  | succ n ih =>
    intro cu su hcu hsu σ l5
    have hk : ∀ (s : MsSt) (x : Int32), TrO G mL_law d mc ms (cu + 4) (su + 24) ms_wi 3017 [(0, .ref 700), (1, .ref 0), (2, .ref 493), (3, .ref 517), (4, .ref 518), (5, .int x)] [] s (f_law_28 L xs n s (x + 6)) := by
      intro s x
      refine tr_iinc (k := 5) (v := (x + 6)) (lv' := [(0, .ref 700), (1, .ref 0), (2, .ref 493), (3, .ref 517), (4, .ref 518), (5, .int (x + 6))]) [1, 2, 3, 4, 5, 0] dL_law_3017 rfl rfl (by decide) rfl ?_
      refine tr_goto (tgt := 28) dL_law_3020 (by decide) ?_
      exact ih (cu + 4) (su + 24) (by omega) (by omega) s (x + 6)
    show TrO G mL_law d mc ms cu su ms_wi 28 [(0, .ref 700), (1, .ref 0), (2, .ref 493), (3, .ref 517), (4, .ref 518), (5, .int l5)] [] σ (if ((Int32.ofNat L) - 6) < l5 then some (1, σ) else (ms_xld L xs l5).bind fun v465 => if (v465 &&& 63) = 0 then f_law_236 L xs (fun s x => f_law_28 L xs n s (x + 6)) σ l5 else if (v465 &&& 63) = 1 then f_law_309 L xs (fun s x => f_law_28 L xs n s (x + 6)) σ l5 else if (v465 &&& 63) = 2 then f_law_365 L xs (fun s x => f_law_28 L xs n s (x + 6)) σ l5 else if (v465 &&& 63) = 3 then f_law_378 L xs (fun s x => f_law_28 L xs n s (x + 6)) σ l5 else if (v465 &&& 63) = 4 then f_law_434 L xs (fun s x => f_law_28 L xs n s (x + 6)) σ l5 else if (v465 &&& 63) = 5 then f_law_502 L xs (fun s x => f_law_28 L xs n s (x + 6)) σ l5 else if (v465 &&& 63) = 6 then f_law_570 L xs (fun s x => f_law_28 L xs n s (x + 6)) σ l5 else if (v465 &&& 63) = 7 then f_law_638 L xs (fun s x => f_law_28 L xs n s (x + 6)) σ l5 else if (v465 &&& 63) = 8 then f_law_706 L xs (fun s x => f_law_28 L xs n s (x + 6)) σ l5 else if (v465 &&& 63) = 9 then f_law_762 L xs (fun s x => f_law_28 L xs n s (x + 6)) σ l5 else if (v465 &&& 63) = 10 then f_law_818 L xs (fun s x => f_law_28 L xs n s (x + 6)) σ l5 else if (v465 &&& 63) = 11 then f_law_886 L xs (fun s x => f_law_28 L xs n s (x + 6)) σ l5 else if (v465 &&& 63) = 12 then f_law_966 L xs (fun s x => f_law_28 L xs n s (x + 6)) σ l5 else if (v465 &&& 63) = 13 then f_law_1034 L xs (fun s x => f_law_28 L xs n s (x + 6)) σ l5 else if (v465 &&& 63) = 14 then f_law_1102 L xs (fun s x => f_law_28 L xs n s (x + 6)) σ l5 else if (v465 &&& 63) = 15 then f_law_1182 L xs (fun s x => f_law_28 L xs n s (x + 6)) σ l5 else if (v465 &&& 63) = 16 then f_law_1274 L xs (fun s x => f_law_28 L xs n s (x + 6)) σ l5 else if (v465 &&& 63) = 17 then f_law_1341 L xs (fun s x => f_law_28 L xs n s (x + 6)) σ l5 else if (v465 &&& 63) = 18 then f_law_1416 L xs (fun s x => f_law_28 L xs n s (x + 6)) σ l5 else if (v465 &&& 63) = 19 then f_law_1472 L xs (fun s x => f_law_28 L xs n s (x + 6)) σ l5 else if (v465 &&& 63) = 20 then f_law_1540 L xs (fun s x => f_law_28 L xs n s (x + 6)) σ l5 else if (v465 &&& 63) = 21 then f_law_1615 L xs (fun s x => f_law_28 L xs n s (x + 6)) σ l5 else if (v465 &&& 63) = 22 then f_law_1711 L xs (fun s x => f_law_28 L xs n s (x + 6)) σ l5 else if (v465 &&& 63) = 23 then f_law_1819 L xs (fun s x => f_law_28 L xs n s (x + 6)) σ l5 else if (v465 &&& 63) = 24 then f_law_1887 L xs (fun s x => f_law_28 L xs n s (x + 6)) σ l5 else if (v465 &&& 63) = 25 then f_law_1955 L xs (fun s x => f_law_28 L xs n s (x + 6)) σ l5 else if (v465 &&& 63) = 26 then f_law_2032 L xs (fun s x => f_law_28 L xs n s (x + 6)) σ l5 else if (v465 &&& 63) = 27 then f_law_2110 L xs (fun s x => f_law_28 L xs n s (x + 6)) σ l5 else if (v465 &&& 63) = 28 then f_law_2166 L xs (fun s x => f_law_28 L xs n s (x + 6)) σ l5 else if (v465 &&& 63) = 29 then f_law_2246 L xs (fun s x => f_law_28 L xs n s (x + 6)) σ l5 else if (v465 &&& 63) = 30 then f_law_2326 L xs (fun s x => f_law_28 L xs n s (x + 6)) σ l5 else if (v465 &&& 63) = 31 then f_law_2406 L xs (fun s x => f_law_28 L xs n s (x + 6)) σ l5 else if (v465 &&& 63) = 32 then f_law_2486 L xs (fun s x => f_law_28 L xs n s (x + 6)) σ l5 else if (v465 &&& 63) = 33 then f_law_2542 L xs (fun s x => f_law_28 L xs n s (x + 6)) σ l5 else if (v465 &&& 63) = 34 then f_law_2598 L xs (fun s x => f_law_28 L xs n s (x + 6)) σ l5 else if (v465 &&& 63) = 35 then f_law_2666 L xs (fun s x => f_law_28 L xs n s (x + 6)) σ l5 else if (v465 &&& 63) = 36 then f_law_2734 L xs (fun s x => f_law_28 L xs n s (x + 6)) σ l5 else if (v465 &&& 63) = 37 then f_law_2818 L xs (fun s x => f_law_28 L xs n s (x + 6)) σ l5 else if (v465 &&& 63) = 38 then f_law_2886 L xs (fun s x => f_law_28 L xs n s (x + 6)) σ l5 else if (v465 &&& 63) = 39 then f_law_2911 L xs (fun s x => f_law_28 L xs n s (x + 6)) σ l5 else if (v465 &&& 63) = 40 then f_law_2924 L xs (fun s x => f_law_28 L xs n s (x + 6)) σ l5 else if (v465 &&& 63) = 41 then f_law_2937 L xs (fun s x => f_law_28 L xs n s (x + 6)) σ l5 else if (v465 &&& 63) = 42 then f_law_2948 L xs (fun s x => f_law_28 L xs n s (x + 6)) σ l5 else if (v465 &&& 63) = 43 then f_law_2961 L xs (fun s x => f_law_28 L xs n s (x + 6)) σ l5 else (fun s x => f_law_28 L xs n s (x + 6)) σ l5)
    refine tr_iload (i := 5) dL_law_28 rfl ?_
    refine tr_aload_n (i := 0) dL_law_30 rfl ?_
    refine tr_xlen hL dL_law_31 ?_
    refine tr_bipush (v := 6) dL_law_32 (by decide +kernel) ?_
    refine tr_isub dL_law_34 ?_
    refine tr_icgt (o := none) (tgt := 3023) dL_law_35 (by decide) ?_ ?_
    · refine tr_iconst (v := 1) dL_law_3023 (by decide +kernel) ?_
      exact tr_zret rfl (by decide +kernel) rfl (by omega) (by omega) dL_law_3024
    · refine tr_aload_n (i := 0) dL_law_38 rfl ?_
      refine tr_iload (i := 5) dL_law_39 rfl ?_
      refine tr_xld hL hxs dL_law_41 (fun v465 => ?_)
      refine tr_bipush (v := 63) dL_law_42 (by decide +kernel) ?_
      refine tr_iand dL_law_44 ?_
      refine tr_tsIn (tgt := 236) (off := 191) 0 dL_law_45 (by decide +kernel) (by decide +kernel) (by decide +kernel) (by decide) ?_ (fun n0 => ?_)
      · exact t_law_236 G hG d hd mc ms L xs hL hxs cu su (by omega) (by omega) (fun s x => f_law_28 L xs n s (x + 6)) hk σ l5
      refine tr_tsIn (tgt := 309) (off := 264) 1 dL_law_45 (by decide +kernel) (by decide +kernel) (by decide +kernel) (by decide) ?_ (fun n1 => ?_)
      · exact t_law_309 G hG d hd mc ms L xs hL hxs cu su (by omega) (by omega) (fun s x => f_law_28 L xs n s (x + 6)) hk σ l5
      refine tr_tsIn (tgt := 365) (off := 320) 2 dL_law_45 (by decide +kernel) (by decide +kernel) (by decide +kernel) (by decide) ?_ (fun n2 => ?_)
      · exact t_law_365 G hG d hd mc ms L xs hL hxs cu su (by omega) (by omega) (fun s x => f_law_28 L xs n s (x + 6)) hk σ l5
      refine tr_tsIn (tgt := 378) (off := 333) 3 dL_law_45 (by decide +kernel) (by decide +kernel) (by decide +kernel) (by decide) ?_ (fun n3 => ?_)
      · exact t_law_378 G hG d hd mc ms L xs hL hxs cu su (by omega) (by omega) (fun s x => f_law_28 L xs n s (x + 6)) hk σ l5
      refine tr_tsIn (tgt := 434) (off := 389) 4 dL_law_45 (by decide +kernel) (by decide +kernel) (by decide +kernel) (by decide) ?_ (fun n4 => ?_)
      · exact t_law_434 G hG d hd mc ms L xs hL hxs cu su (by omega) (by omega) (fun s x => f_law_28 L xs n s (x + 6)) hk σ l5
      refine tr_tsIn (tgt := 502) (off := 457) 5 dL_law_45 (by decide +kernel) (by decide +kernel) (by decide +kernel) (by decide) ?_ (fun n5 => ?_)
      · exact t_law_502 G hG d hd mc ms L xs hL hxs cu su (by omega) (by omega) (fun s x => f_law_28 L xs n s (x + 6)) hk σ l5
      refine tr_tsIn (tgt := 570) (off := 525) 6 dL_law_45 (by decide +kernel) (by decide +kernel) (by decide +kernel) (by decide) ?_ (fun n6 => ?_)
      · exact t_law_570 G hG d hd mc ms L xs hL hxs cu su (by omega) (by omega) (fun s x => f_law_28 L xs n s (x + 6)) hk σ l5
      refine tr_tsIn (tgt := 638) (off := 593) 7 dL_law_45 (by decide +kernel) (by decide +kernel) (by decide +kernel) (by decide) ?_ (fun n7 => ?_)
      · exact t_law_638 G hG d hd mc ms L xs hL hxs cu su (by omega) (by omega) (fun s x => f_law_28 L xs n s (x + 6)) hk σ l5
      refine tr_tsIn (tgt := 706) (off := 661) 8 dL_law_45 (by decide +kernel) (by decide +kernel) (by decide +kernel) (by decide) ?_ (fun n8 => ?_)
      · exact t_law_706 G hG d hd mc ms L xs hL hxs cu su (by omega) (by omega) (fun s x => f_law_28 L xs n s (x + 6)) hk σ l5
      refine tr_tsIn (tgt := 762) (off := 717) 9 dL_law_45 (by decide +kernel) (by decide +kernel) (by decide +kernel) (by decide) ?_ (fun n9 => ?_)
      · exact t_law_762 G hG d hd mc ms L xs hL hxs cu su (by omega) (by omega) (fun s x => f_law_28 L xs n s (x + 6)) hk σ l5
      refine tr_tsIn (tgt := 818) (off := 773) 10 dL_law_45 (by decide +kernel) (by decide +kernel) (by decide +kernel) (by decide) ?_ (fun n10 => ?_)
      · exact t_law_818 G hG d hd mc ms L xs hL hxs cu su (by omega) (by omega) (fun s x => f_law_28 L xs n s (x + 6)) hk σ l5
      refine tr_tsIn (tgt := 886) (off := 841) 11 dL_law_45 (by decide +kernel) (by decide +kernel) (by decide +kernel) (by decide) ?_ (fun n11 => ?_)
      · exact t_law_886 G hG d hd mc ms L xs hL hxs cu su (by omega) (by omega) (fun s x => f_law_28 L xs n s (x + 6)) hk σ l5
      refine tr_tsIn (tgt := 966) (off := 921) 12 dL_law_45 (by decide +kernel) (by decide +kernel) (by decide +kernel) (by decide) ?_ (fun n12 => ?_)
      · exact t_law_966 G hG d hd mc ms L xs hL hxs cu su (by omega) (by omega) (fun s x => f_law_28 L xs n s (x + 6)) hk σ l5
      refine tr_tsIn (tgt := 1034) (off := 989) 13 dL_law_45 (by decide +kernel) (by decide +kernel) (by decide +kernel) (by decide) ?_ (fun n13 => ?_)
      · exact t_law_1034 G hG d hd mc ms L xs hL hxs cu su (by omega) (by omega) (fun s x => f_law_28 L xs n s (x + 6)) hk σ l5
      refine tr_tsIn (tgt := 1102) (off := 1057) 14 dL_law_45 (by decide +kernel) (by decide +kernel) (by decide +kernel) (by decide) ?_ (fun n14 => ?_)
      · exact t_law_1102 G hG d hd mc ms L xs hL hxs cu su (by omega) (by omega) (fun s x => f_law_28 L xs n s (x + 6)) hk σ l5
      refine tr_tsIn (tgt := 1182) (off := 1137) 15 dL_law_45 (by decide +kernel) (by decide +kernel) (by decide +kernel) (by decide) ?_ (fun n15 => ?_)
      · exact t_law_1182 G hG d hd mc ms L xs hL hxs cu su (by omega) (by omega) (fun s x => f_law_28 L xs n s (x + 6)) hk σ l5
      refine tr_tsIn (tgt := 1274) (off := 1229) 16 dL_law_45 (by decide +kernel) (by decide +kernel) (by decide +kernel) (by decide) ?_ (fun n16 => ?_)
      · exact t_law_1274 G hG d hd mc ms L xs hL hxs cu su (by omega) (by omega) (fun s x => f_law_28 L xs n s (x + 6)) hk σ l5
      refine tr_tsIn (tgt := 1341) (off := 1296) 17 dL_law_45 (by decide +kernel) (by decide +kernel) (by decide +kernel) (by decide) ?_ (fun n17 => ?_)
      · exact t_law_1341 G hG d hd mc ms L xs hL hxs cu su (by omega) (by omega) (fun s x => f_law_28 L xs n s (x + 6)) hk σ l5
      refine tr_tsIn (tgt := 1416) (off := 1371) 18 dL_law_45 (by decide +kernel) (by decide +kernel) (by decide +kernel) (by decide) ?_ (fun n18 => ?_)
      · exact t_law_1416 G hG d hd mc ms L xs hL hxs cu su (by omega) (by omega) (fun s x => f_law_28 L xs n s (x + 6)) hk σ l5
      refine tr_tsIn (tgt := 1472) (off := 1427) 19 dL_law_45 (by decide +kernel) (by decide +kernel) (by decide +kernel) (by decide) ?_ (fun n19 => ?_)
      · exact t_law_1472 G hG d hd mc ms L xs hL hxs cu su (by omega) (by omega) (fun s x => f_law_28 L xs n s (x + 6)) hk σ l5
      refine tr_tsIn (tgt := 1540) (off := 1495) 20 dL_law_45 (by decide +kernel) (by decide +kernel) (by decide +kernel) (by decide) ?_ (fun n20 => ?_)
      · exact t_law_1540 G hG d hd mc ms L xs hL hxs cu su (by omega) (by omega) (fun s x => f_law_28 L xs n s (x + 6)) hk σ l5
      refine tr_tsIn (tgt := 1615) (off := 1570) 21 dL_law_45 (by decide +kernel) (by decide +kernel) (by decide +kernel) (by decide) ?_ (fun n21 => ?_)
      · exact t_law_1615 G hG d hd mc ms L xs hL hxs cu su (by omega) (by omega) (fun s x => f_law_28 L xs n s (x + 6)) hk σ l5
      refine tr_tsIn (tgt := 1711) (off := 1666) 22 dL_law_45 (by decide +kernel) (by decide +kernel) (by decide +kernel) (by decide) ?_ (fun n22 => ?_)
      · exact t_law_1711 G hG d hd mc ms L xs hL hxs cu su (by omega) (by omega) (fun s x => f_law_28 L xs n s (x + 6)) hk σ l5
      refine tr_tsIn (tgt := 1819) (off := 1774) 23 dL_law_45 (by decide +kernel) (by decide +kernel) (by decide +kernel) (by decide) ?_ (fun n23 => ?_)
      · exact t_law_1819 G hG d hd mc ms L xs hL hxs cu su (by omega) (by omega) (fun s x => f_law_28 L xs n s (x + 6)) hk σ l5
      refine tr_tsIn (tgt := 1887) (off := 1842) 24 dL_law_45 (by decide +kernel) (by decide +kernel) (by decide +kernel) (by decide) ?_ (fun n24 => ?_)
      · exact t_law_1887 G hG d hd mc ms L xs hL hxs cu su (by omega) (by omega) (fun s x => f_law_28 L xs n s (x + 6)) hk σ l5
      refine tr_tsIn (tgt := 1955) (off := 1910) 25 dL_law_45 (by decide +kernel) (by decide +kernel) (by decide +kernel) (by decide) ?_ (fun n25 => ?_)
      · exact t_law_1955 G hG d hd mc ms L xs hL hxs cu su (by omega) (by omega) (fun s x => f_law_28 L xs n s (x + 6)) hk σ l5
      refine tr_tsIn (tgt := 2032) (off := 1987) 26 dL_law_45 (by decide +kernel) (by decide +kernel) (by decide +kernel) (by decide) ?_ (fun n26 => ?_)
      · exact t_law_2032 G hG d hd mc ms L xs hL hxs cu su (by omega) (by omega) (fun s x => f_law_28 L xs n s (x + 6)) hk σ l5
      refine tr_tsIn (tgt := 2110) (off := 2065) 27 dL_law_45 (by decide +kernel) (by decide +kernel) (by decide +kernel) (by decide) ?_ (fun n27 => ?_)
      · exact t_law_2110 G hG d hd mc ms L xs hL hxs cu su (by omega) (by omega) (fun s x => f_law_28 L xs n s (x + 6)) hk σ l5
      refine tr_tsIn (tgt := 2166) (off := 2121) 28 dL_law_45 (by decide +kernel) (by decide +kernel) (by decide +kernel) (by decide) ?_ (fun n28 => ?_)
      · exact t_law_2166 G hG d hd mc ms L xs hL hxs cu su (by omega) (by omega) (fun s x => f_law_28 L xs n s (x + 6)) hk σ l5
      refine tr_tsIn (tgt := 2246) (off := 2201) 29 dL_law_45 (by decide +kernel) (by decide +kernel) (by decide +kernel) (by decide) ?_ (fun n29 => ?_)
      · exact t_law_2246 G hG d hd mc ms L xs hL hxs cu su (by omega) (by omega) (fun s x => f_law_28 L xs n s (x + 6)) hk σ l5
      refine tr_tsIn (tgt := 2326) (off := 2281) 30 dL_law_45 (by decide +kernel) (by decide +kernel) (by decide +kernel) (by decide) ?_ (fun n30 => ?_)
      · exact t_law_2326 G hG d hd mc ms L xs hL hxs cu su (by omega) (by omega) (fun s x => f_law_28 L xs n s (x + 6)) hk σ l5
      refine tr_tsIn (tgt := 2406) (off := 2361) 31 dL_law_45 (by decide +kernel) (by decide +kernel) (by decide +kernel) (by decide) ?_ (fun n31 => ?_)
      · exact t_law_2406 G hG d hd mc ms L xs hL hxs cu su (by omega) (by omega) (fun s x => f_law_28 L xs n s (x + 6)) hk σ l5
      refine tr_tsIn (tgt := 2486) (off := 2441) 32 dL_law_45 (by decide +kernel) (by decide +kernel) (by decide +kernel) (by decide) ?_ (fun n32 => ?_)
      · exact t_law_2486 G hG d hd mc ms L xs hL hxs cu su (by omega) (by omega) (fun s x => f_law_28 L xs n s (x + 6)) hk σ l5
      refine tr_tsIn (tgt := 2542) (off := 2497) 33 dL_law_45 (by decide +kernel) (by decide +kernel) (by decide +kernel) (by decide) ?_ (fun n33 => ?_)
      · exact t_law_2542 G hG d hd mc ms L xs hL hxs cu su (by omega) (by omega) (fun s x => f_law_28 L xs n s (x + 6)) hk σ l5
      refine tr_tsIn (tgt := 2598) (off := 2553) 34 dL_law_45 (by decide +kernel) (by decide +kernel) (by decide +kernel) (by decide) ?_ (fun n34 => ?_)
      · exact t_law_2598 G hG d hd mc ms L xs hL hxs cu su (by omega) (by omega) (fun s x => f_law_28 L xs n s (x + 6)) hk σ l5
      refine tr_tsIn (tgt := 2666) (off := 2621) 35 dL_law_45 (by decide +kernel) (by decide +kernel) (by decide +kernel) (by decide) ?_ (fun n35 => ?_)
      · exact t_law_2666 G hG d hd mc ms L xs hL hxs cu su (by omega) (by omega) (fun s x => f_law_28 L xs n s (x + 6)) hk σ l5
      refine tr_tsIn (tgt := 2734) (off := 2689) 36 dL_law_45 (by decide +kernel) (by decide +kernel) (by decide +kernel) (by decide) ?_ (fun n36 => ?_)
      · exact t_law_2734 G hG d hd mc ms L xs hL hxs cu su (by omega) (by omega) (fun s x => f_law_28 L xs n s (x + 6)) hk σ l5
      refine tr_tsIn (tgt := 2818) (off := 2773) 37 dL_law_45 (by decide +kernel) (by decide +kernel) (by decide +kernel) (by decide) ?_ (fun n37 => ?_)
      · exact t_law_2818 G hG d hd mc ms L xs hL hxs cu su (by omega) (by omega) (fun s x => f_law_28 L xs n s (x + 6)) hk σ l5
      refine tr_tsIn (tgt := 2886) (off := 2841) 38 dL_law_45 (by decide +kernel) (by decide +kernel) (by decide +kernel) (by decide) ?_ (fun n38 => ?_)
      · exact t_law_2886 G hG d hd mc ms L xs hL hxs cu su (by omega) (by omega) (fun s x => f_law_28 L xs n s (x + 6)) hk σ l5
      refine tr_tsIn (tgt := 2911) (off := 2866) 39 dL_law_45 (by decide +kernel) (by decide +kernel) (by decide +kernel) (by decide) ?_ (fun n39 => ?_)
      · exact t_law_2911 G hG d hd mc ms L xs hL hxs cu su (by omega) (by omega) (fun s x => f_law_28 L xs n s (x + 6)) hk σ l5
      refine tr_tsIn (tgt := 2924) (off := 2879) 40 dL_law_45 (by decide +kernel) (by decide +kernel) (by decide +kernel) (by decide) ?_ (fun n40 => ?_)
      · exact t_law_2924 G hG d hd mc ms L xs hL hxs cu su (by omega) (by omega) (fun s x => f_law_28 L xs n s (x + 6)) hk σ l5
      refine tr_tsIn (tgt := 2937) (off := 2892) 41 dL_law_45 (by decide +kernel) (by decide +kernel) (by decide +kernel) (by decide) ?_ (fun n41 => ?_)
      · exact t_law_2937 G hG d hd mc ms L xs hL hxs cu su (by omega) (by omega) (fun s x => f_law_28 L xs n s (x + 6)) hk σ l5
      refine tr_tsIn (tgt := 2948) (off := 2903) 42 dL_law_45 (by decide +kernel) (by decide +kernel) (by decide +kernel) (by decide) ?_ (fun n42 => ?_)
      · exact t_law_2948 G hG d hd mc ms L xs hL hxs cu su (by omega) (by omega) (fun s x => f_law_28 L xs n s (x + 6)) hk σ l5
      refine tr_tsIn (tgt := 2961) (off := 2916) 43 dL_law_45 (by decide +kernel) (by decide +kernel) (by decide +kernel) (by decide) ?_ (fun n43 => ?_)
      · exact t_law_2961 G hG d hd mc ms L xs hL hxs cu su (by omega) (by omega) (fun s x => f_law_28 L xs n s (x + 6)) hk σ l5
      refine tr_tsOut (tgt := 3017) dL_law_45 ?_ (by decide) ?_
      · have q0 := lv_neT (a := 0) n0 (by decide +kernel); have q1 := lv_neT (a := 1) n1 (by decide +kernel); have q2 := lv_neT (a := 2) n2 (by decide +kernel); have q3 := lv_neT (a := 3) n3 (by decide +kernel); have q4 := lv_neT (a := 4) n4 (by decide +kernel); have q5 := lv_neT (a := 5) n5 (by decide +kernel); have q6 := lv_neT (a := 6) n6 (by decide +kernel); have q7 := lv_neT (a := 7) n7 (by decide +kernel); have q8 := lv_neT (a := 8) n8 (by decide +kernel); have q9 := lv_neT (a := 9) n9 (by decide +kernel); have q10 := lv_neT (a := 10) n10 (by decide +kernel); have q11 := lv_neT (a := 11) n11 (by decide +kernel); have q12 := lv_neT (a := 12) n12 (by decide +kernel); have q13 := lv_neT (a := 13) n13 (by decide +kernel); have q14 := lv_neT (a := 14) n14 (by decide +kernel); have q15 := lv_neT (a := 15) n15 (by decide +kernel); have q16 := lv_neT (a := 16) n16 (by decide +kernel); have q17 := lv_neT (a := 17) n17 (by decide +kernel); have q18 := lv_neT (a := 18) n18 (by decide +kernel); have q19 := lv_neT (a := 19) n19 (by decide +kernel); have q20 := lv_neT (a := 20) n20 (by decide +kernel); have q21 := lv_neT (a := 21) n21 (by decide +kernel); have q22 := lv_neT (a := 22) n22 (by decide +kernel); have q23 := lv_neT (a := 23) n23 (by decide +kernel); have q24 := lv_neT (a := 24) n24 (by decide +kernel); have q25 := lv_neT (a := 25) n25 (by decide +kernel); have q26 := lv_neT (a := 26) n26 (by decide +kernel); have q27 := lv_neT (a := 27) n27 (by decide +kernel); have q28 := lv_neT (a := 28) n28 (by decide +kernel); have q29 := lv_neT (a := 29) n29 (by decide +kernel); have q30 := lv_neT (a := 30) n30 (by decide +kernel); have q31 := lv_neT (a := 31) n31 (by decide +kernel); have q32 := lv_neT (a := 32) n32 (by decide +kernel); have q33 := lv_neT (a := 33) n33 (by decide +kernel); have q34 := lv_neT (a := 34) n34 (by decide +kernel); have q35 := lv_neT (a := 35) n35 (by decide +kernel); have q36 := lv_neT (a := 36) n36 (by decide +kernel); have q37 := lv_neT (a := 37) n37 (by decide +kernel); have q38 := lv_neT (a := 38) n38 (by decide +kernel); have q39 := lv_neT (a := 39) n39 (by decide +kernel); have q40 := lv_neT (a := 40) n40 (by decide +kernel); have q41 := lv_neT (a := 41) n41 (by decide +kernel); have q42 := lv_neT (a := 42) n42 (by decide +kernel); have q43 := lv_neT (a := 43) n43 (by decide +kernel); omega
      exact tr_mono (by omega) (by omega) (hk σ l5)
