/-! the methods as functions on the store, by program out of the bytecode (wip/whole/gen) -/
def f_X5_get  (σ : MsSt) (l0 : Nat) (l1 : Int32) : Option (Int32) :=
  if l1 < 0 then
    some (-1)
  else
    if l1 < (ms_i σ l0 1) then
      if l1 < (Int32.ofNat (ms_ln (ms_rf l0 0))) then
        (ms_ald σ (ms_rf l0 0) l1).bind fun v1 =>
        some v1
      else
        some (-1)
    else
      some (-1)
def f_X6_told  (σ : MsSt) (l0 : Nat) (l1 : Int32) : Option (Nat) :=
  if l1 < 0 then
    some (ms_rf l0 2)
  else
    if l1 < (Int32.ofNat (ms_ln (ms_rf l0 0))) then
      (ms_ala (ms_rf l0 0) l1).bind fun v1 =>
      some v1
    else
      some (ms_rf l0 2)
def f_X6_widthOf  (σ : MsSt) (l0 : Nat) (l1 : Int32) : Option (Int32) :=
  if l1 = (-1) then
    some 0
  else
    (f_X6_told σ l0 l1).bind fun v1 =>
    some (ms_i σ v1 6)
def f_X0_heightOf  (σ : MsSt) (l0 : Nat) (l1 : Int32) : Option (Int32) :=
  if l1 = (-1) then
    some 0
  else
    (f_X6_told σ (ms_rf l0 0) l1).bind fun v1 =>
    some (ms_i σ v1 7)
def f_X5_clear  (σ : MsSt) (l0 : Nat) : Option (MsSt) :=
  ms_nm (ms_si σ l0 1 0) fun s1 =>
  some s1
def f_X0_begin  (σ : MsSt) (l0 : Nat) (l1 : Int32) (l2 : Int32) : Option (MsSt) :=
  (f_X5_clear σ (ms_rf l0 1)).bind fun s1 =>
  (f_X5_clear s1 (ms_rf l0 2)).bind fun s2 =>
  (f_X5_clear s2 (ms_rf l0 3)).bind fun s3 =>
  (f_X5_clear s3 (ms_rf l0 4)).bind fun s4 =>
  (f_X5_clear s4 (ms_rf l0 5)).bind fun s5 =>
  ms_nm (ms_si s5 l0 6 l2) fun s6 =>
  ms_nm (ms_si s6 l0 7 0) fun s7 =>
  ms_nm (ms_si s7 l0 8 0) fun s8 =>
  ms_nm (ms_si s8 l0 9 l1) fun s9 =>
  ms_nm (ms_si s9 l0 10 l2) fun s10 =>
  ms_nm (ms_si s10 l0 11 0) fun s11 =>
  some s11
def f_X1_firstMark  (σ : MsSt) (l0 : Nat) (l1 : Int32) : Option (Int32) :=
  (f_X5_get σ (ms_rf l0 5) l1).bind fun v1 =>
  if v1 = (-1) then
    (f_X5_get σ (ms_rf l0 4) l1).bind fun v3 =>
    some v3
  else
    (f_X5_get σ (ms_rf l0 4) l1).bind fun v2 =>
    some (v2 + 1)
def f_X1_endOf  (σ : MsSt) (l0 : Nat) (l1 : Int32) : Option (Int32) :=
  if (l1 + 1) < (ms_i σ (ms_rf l0 4) 1) then
    (f_X5_get σ (ms_rf l0 4) (l1 + 1)).bind fun v1 =>
    some v1
  else
    some (ms_i σ (ms_rf l0 2) 1)
def f_X0_anchorFor  (σ : MsSt) (l0 : Nat) (l1 : Int32) (l2 : Int32) : Option (Int32) :=
  if l2 = (-1) then
    some 0
  else
    (f_X6_told σ (ms_rf l0 0) l2).bind fun v1 =>
    if l1 = 2 then
      (ms_idiv (ms_i σ v1 6) 2).bind fun v2 =>
      some v2
    else
      if l1 = 0 then
        some (ms_i σ v1 8)
      else
        some (ms_i σ v1 9)
def f_X5_add  (σ : MsSt) (l0 : Nat) (l1 : Int32) : Option (MsSt) :=
  if (ms_i σ l0 1) < 0 then
    some σ
  else
    if (ms_i σ l0 1) < (Int32.ofNat (ms_ln (ms_rf l0 0))) then
      (ms_ast σ (ms_rf l0 0) (ms_i σ l0 1) l1).bind fun s1 =>
      ms_nm (ms_si s1 l0 1 ((ms_i s1 l0 1) + 1)) fun s2 =>
      some s2
    else
      some σ
def f_X0_addBox  (σ : MsSt) (l0 : Nat) (l1 : Int32) (l2 : Int32) (l3 : Int32) (l4 : Int32) (l5 : Int32) : Option (MsSt) :=
  (f_X5_add σ (ms_rf l0 1) l1).bind fun s1 =>
  (f_X5_add s1 (ms_rf l0 2) l2).bind fun s2 =>
  (f_X5_add s2 (ms_rf l0 3) l3).bind fun s3 =>
  (f_X5_add s3 (ms_rf l0 4) l4).bind fun s4 =>
  (f_X5_add s4 (ms_rf l0 5) l5).bind fun s5 =>
  ms_nm (ms_si s5 l0 8 (if l2 < (ms_i s5 l0 8) then l2 else (ms_i s5 l0 8))) fun s6 =>
  ms_nm (ms_si s6 l0 9 (if (ms_i s6 l0 9) < l3 then l3 else (ms_i s6 l0 9))) fun s7 =>
  ms_nm (ms_si s7 l0 10 (if (ms_i s7 l0 10) < l5 then l5 else (ms_i s7 l0 10))) fun s8 =>
  ms_nm (ms_si s8 l0 11 (if l4 < (ms_i s8 l0 11) then l4 else (ms_i s8 l0 11))) fun s9 =>
  some s9
def f_X0_layMark_93   (σ : MsSt) (l0 : Nat) (l1 : Int32) (l3 : Nat) (l4 : Int32) (l5 : Int32) : Option (MsSt) :=
  (f_X0_addBox σ l0 l1 l4 (l4 + (ms_i σ l3 6)) l5 (l5 + (ms_i σ l3 7))).bind fun s5 =>
  some s5
def f_X0_layMark  (σ : MsSt) (l0 : Nat) (l1 : Int32) (l2 : Int32) : Option (MsSt) :=
  (f_X6_told σ (ms_rf l0 0) l1).bind fun v1 =>
  (f_X0_anchorFor σ l0 (ms_i σ v1 5) l2).bind fun v2 =>
  if (ms_i σ v1 5) = 0 then
    ms_nm (ms_si σ l0 6 (((ms_i σ l0 6) + 1) + (ms_i σ v1 7))) fun s7 =>
    f_X0_layMark_93 s7 l0 l1 v1 (v2 - (ms_i σ v1 10)) ((ms_i σ l0 6) + 1)
  else
    if (ms_i σ v1 5) = 1 then
      ms_nm (ms_si σ l0 7 (((ms_i σ l0 7) - 1) - (ms_i σ v1 7))) fun s6 =>
      f_X0_layMark_93 s6 l0 l1 v1 (v2 - (ms_i σ v1 10)) (((ms_i σ l0 7) - 1) - (ms_i σ v1 7))
    else
      (f_X0_heightOf σ l0 l2).bind fun v3 =>
      (ms_idiv v3 2).bind fun v4 =>
      f_X0_layMark_93 σ l0 l1 v1 (v2 - (ms_i σ v1 10)) v4
def f_X0_lay_33   : Nat → MsSt → Nat → Nat → Int32 → Int32 → Int32 → Option (MsSt)
  | 0, _, _, _, _, _, _ => none
  | n + 1, σ, l0, l1, l2, l3, l4 =>
    (f_X1_endOf σ l1 l2).bind fun v6 =>
    if l4 < v6 then
      (f_X5_get σ (ms_rf l1 2) l4).bind fun v9 =>
      (f_X0_layMark σ l0 v9 l3).bind fun s10 =>
      (f_X0_lay_33 n) s10 l0 l1 l2 l3 (l4 + 1)
    else
      ms_nm (ms_si σ l0 10 (if (ms_i σ l0 10) < (ms_i σ l0 6) then (ms_i σ l0 6) else (ms_i σ l0 10))) fun s7 =>
      ms_nm (ms_si s7 l0 11 (if (ms_i s7 l0 7) < (ms_i s7 l0 11) then (ms_i s7 l0 7) else (ms_i s7 l0 11))) fun s8 =>
      some s8
def f_X0_lay  (σ : MsSt) (l0 : Nat) (l1 : Nat) (l2 : Int32) : Option (MsSt) :=
  (f_X5_get σ (ms_rf l1 5) l2).bind fun v1 =>
  (f_X6_widthOf σ (ms_rf l0 0) v1).bind fun v2 =>
  (f_X0_heightOf σ l0 v1).bind fun v3 =>
  (f_X0_begin σ l0 v2 v3).bind fun s4 =>
  (f_X1_firstMark s4 l1 l2).bind fun v5 =>
  f_X0_lay_33 ms_fuel s4 l0 l1 l2 v1 v5
def f_X0_overlapsAt  (σ : MsSt) (l0 : Nat) (l1 : Int32) (l2 : Nat) (l3 : Int32) (l4 : Int32) : Option (Int32) :=
  (f_X5_get σ (ms_rf l0 2) l1).bind fun v1 =>
  (f_X5_get σ (ms_rf l2 3) l3).bind fun v2 =>
  if v1 < (v2 + l4) then
    (f_X5_get σ (ms_rf l2 2) l3).bind fun v3 =>
    (f_X5_get σ (ms_rf l0 3) l1).bind fun v4 =>
    if (v3 + l4) < v4 then
      (f_X5_get σ (ms_rf l0 4) l1).bind fun v5 =>
      (f_X5_get σ (ms_rf l2 5) l3).bind fun v6 =>
      if v5 < v6 then
        (f_X5_get σ (ms_rf l2 4) l3).bind fun v7 =>
        (f_X5_get σ (ms_rf l0 5) l1).bind fun v8 =>
        if v7 < v8 then
          some 1
        else
          some 0
      else
        some 0
    else
      some 0
  else
    some 0
def f_X0_overlaps_16  (σ : MsSt) (k2 : Nat → Nat → Int32 → Int32 → Option (Int32)) : Nat → Nat → Nat → Int32 → Int32 → Int32 → Option (Int32)
  | 0, _, _, _, _, _ => none
  | n + 1, l0, l1, l2, l3, l4 =>
    if l4 < (ms_i σ (ms_rf l1 1) 1) then
      (f_X0_overlapsAt σ l0 l3 l1 l4 l2).bind fun v1 =>
      if v1 = 0 then
        (f_X0_overlaps_16 σ k2 n) l0 l1 l2 l3 (l4 + 1)
      else
        some 1
    else
      k2 l0 l1 l2 (l3 + 1)
def f_X0_overlaps_2  (σ : MsSt) : Nat → Nat → Nat → Int32 → Int32 → Option (Int32)
  | 0, _, _, _, _ => none
  | n + 1, l0, l1, l2, l3 =>
    if l3 < (ms_i σ (ms_rf l0 1) 1) then
      f_X0_overlaps_16 σ (f_X0_overlaps_2 σ n) ms_fuel l0 l1 l2 l3 0
    else
      some 0
def f_X0_overlaps  (σ : MsSt) (l0 : Nat) (l1 : Nat) (l2 : Int32) : Option (Int32) :=
  f_X0_overlaps_2 σ ms_fuel l0 l1 l2 0
def f_X5_addAll_7   : Nat → MsSt → Nat → Nat → Int32 → Int32 → Option (MsSt)
  | 0, _, _, _, _, _ => none
  | n + 1, σ, l0, l1, l2, l3 =>
    if l3 < l2 then
      (f_X5_get σ l1 l3).bind fun v1 =>
      (f_X5_add σ l0 v1).bind fun s2 =>
      (f_X5_addAll_7 n) s2 l0 l1 l2 (l3 + 1)
    else
      some σ
def f_X5_addAll  (σ : MsSt) (l0 : Nat) (l1 : Nat) : Option (MsSt) :=
  f_X5_addAll_7 ms_fuel σ l0 l1 (ms_i σ l1 1) 0
def f_X1_expandAll_9   : Nat → MsSt → Nat → Nat → Int32 → Option (MsSt)
  | 0, _, _, _, _ => none
  | n + 1, σ, l0, l1, l2 =>
    if l2 < (ms_i σ l1 1) then
      (f_X5_get σ l1 l2).bind fun v2 =>
      (f_X6_told σ (ms_rf l0 0) v2).bind fun v3 =>
      (f_X5_addAll σ (ms_rf l0 1) (ms_rf v3 0)).bind fun s4 =>
      (f_X1_expandAll_9 n) s4 l0 l1 (l2 + 1)
    else
      some σ
def f_X1_expandAll  (σ : MsSt) (l0 : Nat) (l1 : Nat) : Option (MsSt) :=
  (f_X5_clear σ (ms_rf l0 1)).bind fun s1 =>
  f_X1_expandAll_9 ms_fuel s1 l0 l1 0
def f_X5_takeOver  (σ : MsSt) (l0 : Nat) (l1 : Nat) : Option (MsSt) :=
  (f_X5_clear σ l0).bind fun s1 =>
  (f_X5_addAll s1 l0 l1).bind fun s2 =>
  some s2
def f_X6_kindOf  (σ : MsSt) (l0 : Nat) (l1 : Int32) : Option (Int32) :=
  (f_X6_told σ l0 l1).bind fun v1 =>
  some (ms_i σ v1 1)
def f_X6_classOf  (σ : MsSt) (l0 : Nat) (l1 : Int32) : Option (Int32) :=
  (f_X6_told σ l0 l1).bind fun v1 =>
  some (ms_i σ v1 4)
def f_X5_put  (σ : MsSt) (l0 : Nat) (l1 : Int32) (l2 : Int32) : Option (MsSt) :=
  if l1 < 0 then
    some σ
  else
    if l1 < (ms_i σ l0 1) then
      if l1 < (Int32.ofNat (ms_ln (ms_rf l0 0))) then
        (ms_ast σ (ms_rf l0 0) l1 l2).bind fun s1 =>
        some s1
      else
        some σ
    else
      some σ
def f_X1_sinkMark_24   : Nat → MsSt → Nat → Int32 → Int32 → Option (MsSt)
  | 0, _, _, _, _ => none
  | n + 1, σ, l0, l2, l3 =>
    if 0 < l3 then
      (f_X5_get σ (ms_rf l0 2) (l3 - 1)).bind fun v4 =>
      (f_X6_classOf σ (ms_rf l0 0) v4).bind fun v5 =>
      (f_X6_classOf σ (ms_rf l0 0) l2).bind fun v6 =>
      if v6 < v5 then
        (f_X5_get σ (ms_rf l0 2) (l3 - 1)).bind fun v8 =>
        (f_X5_put σ (ms_rf l0 2) l3 v8).bind fun s9 =>
        (f_X1_sinkMark_24 n) s9 l0 l2 (l3 + (-1))
      else
        (f_X5_put σ (ms_rf l0 2) l3 l2).bind fun s7 =>
        some s7
    else
      (f_X5_put σ (ms_rf l0 2) l3 l2).bind fun s3 =>
      some s3
def f_X1_sinkMark  (σ : MsSt) (l0 : Nat) (l1 : Int32) : Option (MsSt) :=
  (f_X5_get σ (ms_rf l0 2) l1).bind fun v1 =>
  (f_X6_kindOf σ (ms_rf l0 0) v1).bind fun v2 =>
  if v2 = 1 then
    f_X1_sinkMark_24 ms_fuel σ l0 v1 l1
  else
    some σ
def f_X1_findClusters_59  (k16 : MsSt → Nat → Int32 → Option (MsSt)) (σ : MsSt) (l0 : Nat) (l1 : Int32) (l2 : Int32) : Option (MsSt) :=
  (f_X5_add σ (ms_rf l0 4) l1).bind fun s5 =>
  if l2 = 0 then
    (f_X5_add s5 (ms_rf l0 5) (-1)).bind fun s6 =>
    k16 s6 l0 (l1 + 1)
  else
    (f_X5_get s5 (ms_rf l0 2) l1).bind fun v7 =>
    (f_X5_add s5 (ms_rf l0 5) v7).bind fun s8 =>
    k16 s8 l0 (l1 + 1)
def f_X1_findClusters_50  (k16 : MsSt → Nat → Int32 → Option (MsSt)) (σ : MsSt) (l0 : Nat) (l1 : Int32) (t0 : Int32) : Option (MsSt) :=
  if l1 = 0 then
    f_X1_findClusters_59 k16 σ l0 l1 t0
  else
    if t0 = 0 then
      k16 σ l0 (l1 + 1)
    else
      f_X1_findClusters_59 k16 σ l0 l1 t0
def f_X1_findClusters_16   : Nat → MsSt → Nat → Int32 → Option (MsSt)
  | 0, _, _, _ => none
  | n + 1, σ, l0, l1 =>
    if l1 < (ms_i σ (ms_rf l0 2) 1) then
      (f_X5_get σ (ms_rf l0 2) l1).bind fun v3 =>
      (f_X6_kindOf σ (ms_rf l0 0) v3).bind fun v4 =>
      if v4 = 0 then
        f_X1_findClusters_50 (f_X1_findClusters_16 n) σ l0 l1 1
      else
        f_X1_findClusters_50 (f_X1_findClusters_16 n) σ l0 l1 0
    else
      some σ
def f_X1_findClusters  (σ : MsSt) (l0 : Nat) : Option (MsSt) :=
  (f_X5_clear σ (ms_rf l0 4)).bind fun s1 =>
  (f_X5_clear s1 (ms_rf l0 5)).bind fun s2 =>
  f_X1_findClusters_16 ms_fuel s2 l0 0
def f_X6_findPair_2  (σ : MsSt) : Nat → Nat → Int32 → Int32 → Int32 → Option (Int32)
  | 0, _, _, _, _ => none
  | n + 1, l0, l1, l2, l3 =>
    if l3 < (ms_i σ l0 4) then
      (f_X6_told σ l0 l3).bind fun v1 =>
      if (ms_i σ v1 1) = 2 then
        if (ms_i σ v1 11) = l1 then
          if (ms_i σ v1 12) = l2 then
            some l3
          else
            (f_X6_findPair_2 σ n) l0 l1 l2 (l3 + 1)
        else
          (f_X6_findPair_2 σ n) l0 l1 l2 (l3 + 1)
      else
        (f_X6_findPair_2 σ n) l0 l1 l2 (l3 + 1)
    else
      some (-1)
def f_X6_findPair  (σ : MsSt) (l0 : Nat) (l1 : Int32) (l2 : Int32) : Option (Int32) :=
  f_X6_findPair_2 σ ms_fuel l0 l1 l2 0
def f_X6_findMade  (σ : MsSt) (l0 : Nat) (l1 : Int32) (l2 : Int32) (l3 : Int32) : Option (Int32) :=
  (f_X6_findPair σ l0 l1 l2).bind fun v1 =>
  if v1 = (-1) then
    some v1
  else
    (f_X6_told σ l0 v1).bind fun v2 =>
    if (ms_i σ v2 13) = 0 then
      some v1
    else
      if v1 = l3 then
        some v1
      else
        some (-1)
def f_X1_composeCluster_108  (k41 : MsSt → Nat → Int32 → Int32 → Int32 → Int32 → Int32 → Int32 → Option (MsSt)) (σ : MsSt) (l0 : Nat) (l1 : Int32) (l2 : Int32) (l3 : Int32) (l4 : Int32) (l5 : Int32) (l6 : Int32) (l7 : Int32) (t0 : Int32) : Option (MsSt) :=
  if t0 = (-1) then
    (f_X5_add σ (ms_rf l0 3) l7).bind fun s7 =>
    (f_X6_classOf s7 (ms_rf l0 0) l7).bind fun v8 =>
    k41 s7 l0 l1 l2 l3 l4 v8 (l6 + 1)
  else
    (f_X5_put σ (ms_rf l0 3) l4 t0).bind fun s6 =>
    k41 s6 l0 l1 l2 t0 l4 l5 (l6 + 1)
def f_X1_composeCluster_86  (k41 : MsSt → Nat → Int32 → Int32 → Int32 → Int32 → Int32 → Int32 → Option (MsSt)) (σ : MsSt) (l0 : Nat) (l1 : Int32) (l2 : Int32) (l3 : Int32) (l4 : Int32) (l5 : Int32) (l6 : Int32) (l7 : Int32) (t0 : Int32) : Option (MsSt) :=
  if t0 = 0 then
    (f_X6_findMade σ (ms_rf l0 0) l3 l7 l2).bind fun v5 =>
    f_X1_composeCluster_108 k41 σ l0 l1 l2 l3 l4 l5 l6 l7 v5
  else
    f_X1_composeCluster_108 k41 σ l0 l1 l2 l3 l4 l5 l6 l7 (-1)
def f_X1_composeCluster_81  (k41 : MsSt → Nat → Int32 → Int32 → Int32 → Int32 → Int32 → Int32 → Option (MsSt)) (σ : MsSt) (l0 : Nat) (l1 : Int32) (l2 : Int32) (l3 : Int32) (l4 : Int32) (l5 : Int32) (l6 : Int32) (l7 : Int32) : Option (MsSt) :=
  f_X1_composeCluster_86 k41 σ l0 l1 l2 l3 l4 l5 l6 l7 1
def f_X1_composeCluster_41   : Nat → MsSt → Nat → Int32 → Int32 → Int32 → Int32 → Int32 → Int32 → Option (MsSt)
  | 0, _, _, _, _, _, _, _, _ => none
  | n + 1, σ, l0, l1, l2, l3, l4, l5, l6 =>
    (f_X1_endOf σ l0 l1).bind fun v3 =>
    if l6 < v3 then
      (f_X5_get σ (ms_rf l0 2) l6).bind fun v4 =>
      if l3 = (-1) then
        f_X1_composeCluster_81 (f_X1_composeCluster_41 n) σ l0 l1 l2 l3 l4 l5 l6 v4
      else
        (f_X6_classOf σ (ms_rf l0 0) v4).bind fun v9 =>
        if v9 = l5 then
          f_X1_composeCluster_81 (f_X1_composeCluster_41 n) σ l0 l1 l2 l3 l4 l5 l6 v4
        else
          f_X1_composeCluster_86 (f_X1_composeCluster_41 n) σ l0 l1 l2 l3 l4 l5 l6 v4 0
    else
      some σ
def f_X1_composeCluster  (σ : MsSt) (l0 : Nat) (l1 : Int32) (l2 : Int32) : Option (MsSt) :=
  (f_X5_get σ (ms_rf l0 5) l1).bind fun v1 =>
  if v1 = (-1) then
    (f_X1_firstMark σ l0 l1).bind fun v2 =>
    f_X1_composeCluster_41 ms_fuel σ l0 l1 l2 v1 (ms_i σ (ms_rf l0 3) 1) 0 v2
  else
    (f_X5_add σ (ms_rf l0 3) v1).bind fun s10 =>
    (f_X1_firstMark s10 l0 l1).bind fun v11 =>
    f_X1_composeCluster_41 ms_fuel s10 l0 l1 l2 v1 (ms_i σ (ms_rf l0 3) 1) 0 v11
def f_X1_derive_60   : Nat → MsSt → Nat → Int32 → Int32 → Option (MsSt)
  | 0, _, _, _, _ => none
  | n + 1, σ, l0, l2, l3 =>
    if l3 < (ms_i σ (ms_rf l0 4) 1) then
      (f_X1_composeCluster σ l0 l3 l2).bind fun s6 =>
      (f_X5_add s6 (ms_rf l0 6) ((ms_i s6 (ms_rf l0 3) 1) - (ms_i σ (ms_rf l0 3) 1))).bind fun s7 =>
      (f_X1_derive_60 n) s7 l0 l2 (l3 + 1)
    else
      some σ
def f_X1_derive_18   : Nat → MsSt → Nat → Int32 → Int32 → Option (MsSt)
  | 0, _, _, _, _ => none
  | n + 1, σ, l0, l2, l3 =>
    if l3 < (ms_i σ (ms_rf l0 2) 1) then
      (f_X1_sinkMark σ l0 l3).bind fun s8 =>
      (f_X1_derive_18 n) s8 l0 l2 (l3 + 1)
    else
      (f_X1_findClusters σ l0).bind fun s3 =>
      (f_X5_clear s3 (ms_rf l0 3)).bind fun s4 =>
      (f_X5_clear s4 (ms_rf l0 6)).bind fun s5 =>
      f_X1_derive_60 ms_fuel s5 l0 l2 0
def f_X1_derive  (σ : MsSt) (l0 : Nat) (l1 : Nat) (l2 : Int32) : Option (MsSt) :=
  (f_X1_expandAll σ l0 l1).bind fun s1 =>
  (f_X5_takeOver s1 (ms_rf l0 2) (ms_rf l0 1)).bind fun s2 =>
  f_X1_derive_18 ms_fuel s2 l0 l2 1
def f_X1_marksIn  (σ : MsSt) (l0 : Nat) (l1 : Int32) : Option (Int32) :=
  (f_X1_endOf σ l0 l1).bind fun v1 =>
  (f_X1_firstMark σ l0 l1).bind fun v2 =>
  some (v1 - v2)
def f_X1_penOf_4  (σ : MsSt) : Nat → Nat → Int32 → Int32 → Int32 → Option (Int32)
  | 0, _, _, _, _ => none
  | n + 1, l0, l1, l2, l3 =>
    if l3 < l1 then
      if l3 < (ms_i σ (ms_rf l0 4) 1) then
        (f_X5_get σ (ms_rf l0 5) l3).bind fun v1 =>
        (f_X6_widthOf σ (ms_rf l0 0) v1).bind fun v2 =>
        (f_X1_penOf_4 σ n) l0 l1 (l2 + v2) (l3 + 1)
      else
        some l2
    else
      some l2
def f_X1_penOf  (σ : MsSt) (l0 : Nat) (l1 : Int32) : Option (Int32) :=
  f_X1_penOf_4 σ ms_fuel l0 l1 0 0
def f_X1_classWith  (σ : MsSt) (l0 : Nat) (l1 : Int32) (l2 : Int32) (l3 : Int32) : Option (Int32) :=
  if l1 = l2 then
    some l3
  else
    (f_X6_classOf σ (ms_rf l0 0) l1).bind fun v1 =>
    some v1
def f_X1_countPassed_24  (σ : MsSt) : Nat → Nat → Int32 → Int32 → Int32 → Int32 → Int32 → Option (Int32)
  | 0, _, _, _, _, _, _ => none
  | n + 1, l0, l2, l3, l4, l5, l6 =>
    if l6 < 0 then
      some l5
    else
      if 0 < l4 then
        (f_X5_get σ (ms_rf l0 1) l6).bind fun v3 =>
        (f_X1_classWith σ l0 v3 l2 l3).bind fun v4 =>
        if v4 = 0 then
          some l5
        else
          if l4 < v4 then
            (f_X1_countPassed_24 σ n) l0 l2 l3 l4 (l5 + 1) (l6 + (-1))
          else
            (f_X1_countPassed_24 σ n) l0 l2 l3 l4 l5 (l6 + (-1))
      else
        some l5
def f_X1_countPassed  (σ : MsSt) (l0 : Nat) (l1 : Int32) (l2 : Int32) (l3 : Int32) : Option (Int32) :=
  (f_X5_get σ (ms_rf l0 1) l1).bind fun v1 =>
  (f_X1_classWith σ l0 v1 l2 l3).bind fun v2 =>
  f_X1_countPassed_24 σ ms_fuel l0 l2 l3 v2 0 (l1 - 1)
def f_X1_countSwaps_5  (σ : MsSt) : Nat → Nat → Int32 → Int32 → Int32 → Int32 → Option (Int32)
  | 0, _, _, _, _, _ => none
  | n + 1, l0, l1, l2, l3, l4 =>
    if l4 < (ms_i σ (ms_rf l0 1) 1) then
      (f_X1_countPassed σ l0 l4 l1 l2).bind fun v1 =>
      (f_X1_countSwaps_5 σ n) l0 l1 l2 (l3 + v1) (l4 + 1)
    else
      some l3
def f_X1_countSwaps  (σ : MsSt) (l0 : Nat) (l1 : Int32) (l2 : Int32) : Option (Int32) :=
  f_X1_countSwaps_5 σ ms_fuel l0 l1 l2 0 0
def f_X1_countOrders_61  (σ : MsSt) (k18 : Nat → Int32 → Int64 → Int32 → Int32 → Int32 → Int32 → Option (Int64)) (l0 : Nat) (l1 : Int32) (l2 : Int64) (l4 : Int32) (l7 : Int32) (l8 : Int32) (t0 : Int32) : Option (Int64) :=
  if 0 < t0 then
    (ms_ldiv (l2 * ((l4 + 1).toInt64)) t0.toInt64).bind fun v5 =>
    k18 l0 l1 v5 (l4 + 1) t0 l8 (l7 + 1)
  else
    k18 l0 l1 0 (l4 + 1) t0 l8 (l7 + 1)
def f_X1_countOrders_18  (σ : MsSt) : Nat → Nat → Int32 → Int64 → Int32 → Int32 → Int32 → Int32 → Option (Int64)
  | 0, _, _, _, _, _, _, _ => none
  | n + 1, l0, l1, l2, l4, l5, l6, l7 =>
    (f_X1_endOf σ l0 l1).bind fun v2 =>
    if l7 < v2 then
      (f_X5_get σ (ms_rf l0 2) l7).bind fun v3 =>
      (f_X6_classOf σ (ms_rf l0 0) v3).bind fun v4 =>
      if v4 = l6 then
        f_X1_countOrders_61 σ (f_X1_countOrders_18 σ n) l0 l1 l2 l4 l7 v4 (l5 + 1)
      else
        f_X1_countOrders_61 σ (f_X1_countOrders_18 σ n) l0 l1 l2 l4 l7 v4 1
    else
      some l2
def f_X1_countOrders  (σ : MsSt) (l0 : Nat) (l1 : Int32) : Option (Int64) :=
  (f_X1_firstMark σ l0 l1).bind fun v1 =>
  f_X1_countOrders_18 σ ms_fuel l0 l1 1 0 0 0 v1
def f_X1_marksUpTo_9  (σ : MsSt) : Nat → Nat → Int32 → Int32 → Int32 → Int32 → Option (Int32)
  | 0, _, _, _, _, _ => none
  | n + 1, l0, l1, l2, l3, l4 =>
    (f_X1_endOf σ l0 l1).bind fun v2 =>
    if l4 < v2 then
      (f_X5_get σ (ms_rf l0 2) l4).bind fun v3 =>
      (f_X6_classOf σ (ms_rf l0 0) v3).bind fun v4 =>
      if l2 < v4 then
        (f_X1_marksUpTo_9 σ n) l0 l1 l2 l3 (l4 + 1)
      else
        (f_X1_marksUpTo_9 σ n) l0 l1 l2 (l3 + 1) (l4 + 1)
    else
      some l3
def f_X1_marksUpTo  (σ : MsSt) (l0 : Nat) (l1 : Int32) (l2 : Int32) : Option (Int32) :=
  (f_X1_firstMark σ l0 l1).bind fun v1 =>
  f_X1_marksUpTo_9 σ ms_fuel l0 l1 l2 0 v1
def f_X1_isOfSide  (σ : MsSt) (l0 : Nat) (l1 : Int32) (l2 : Int32) : Option (Int32) :=
  if l2 = 3 then
    some 1
  else
    (f_X6_told σ (ms_rf l0 0) l1).bind fun v1 =>
    if (ms_i σ v1 5) = l2 then
      some 1
    else
      some 0
def f_X1_marksOfSide_9  (σ : MsSt) : Nat → Nat → Int32 → Int32 → Int32 → Int32 → Option (Int32)
  | 0, _, _, _, _, _ => none
  | n + 1, l0, l1, l2, l3, l4 =>
    (f_X1_endOf σ l0 l1).bind fun v2 =>
    if l4 < v2 then
      (f_X5_get σ (ms_rf l0 2) l4).bind fun v3 =>
      (f_X1_isOfSide σ l0 v3 l2).bind fun v4 =>
      if v4 = 0 then
        (f_X1_marksOfSide_9 σ n) l0 l1 l2 l3 (l4 + 1)
      else
        (f_X1_marksOfSide_9 σ n) l0 l1 l2 (l3 + 1) (l4 + 1)
    else
      some l3
def f_X1_marksOfSide  (σ : MsSt) (l0 : Nat) (l1 : Int32) (l2 : Int32) : Option (Int32) :=
  (f_X1_firstMark σ l0 l1).bind fun v1 =>
  f_X1_marksOfSide_9 σ ms_fuel l0 l1 l2 0 v1
def f_X1_writeWithout_21   : Nat → MsSt → Nat → Int32 → Nat → Int32 → Int32 → Int32 → Option (MsSt)
  | 0, _, _, _, _, _, _, _ => none
  | n + 1, σ, l0, l2, l3, l4, l5, l6 =>
    if l6 < (ms_i σ (ms_rf l0 2) 1) then
      (f_X5_get σ (ms_rf l0 2) l6).bind fun v4 =>
      if l6 < l4 then
        (f_X5_add σ l3 v4).bind fun s5 =>
        (f_X1_writeWithout_21 n) s5 l0 l2 l3 l4 l5 (l6 + 1)
      else
        if l6 < l5 then
          (f_X1_isOfSide σ l0 v4 l2).bind fun v7 =>
          if v7 = 0 then
            (f_X5_add σ l3 v4).bind fun s8 =>
            (f_X1_writeWithout_21 n) s8 l0 l2 l3 l4 l5 (l6 + 1)
          else
            (f_X1_writeWithout_21 n) σ l0 l2 l3 l4 l5 (l6 + 1)
        else
          (f_X5_add σ l3 v4).bind fun s6 =>
          (f_X1_writeWithout_21 n) s6 l0 l2 l3 l4 l5 (l6 + 1)
    else
      some σ
def f_X1_writeWithout  (σ : MsSt) (l0 : Nat) (l1 : Int32) (l2 : Int32) (l3 : Nat) : Option (MsSt) :=
  (f_X1_firstMark σ l0 l1).bind fun v1 =>
  (f_X1_endOf σ l0 l1).bind fun v2 =>
  (f_X5_clear σ l3).bind fun s3 =>
  f_X1_writeWithout_21 ms_fuel s3 l0 l2 l3 v1 v2 0
def f_X1_hasSameSigns_48  (σ : MsSt) : Nat → Nat → Nat → Int32 → Int32 → Int32 → Int32 → Option (Int32)
  | 0, _, _, _, _, _, _ => none
  | n + 1, l0, l2, l4, l5, l6, l7 =>
    if l7 < l6 then
      (f_X5_get σ (ms_rf l0 2) (l4 + l7)).bind fun v5 =>
      (f_X5_get σ (ms_rf l2 2) (l5 + l7)).bind fun v6 =>
      if v5 = v6 then
        (f_X1_hasSameSigns_48 σ n) l0 l2 l4 l5 l6 (l7 + 1)
      else
        some 0
    else
      some 1
def f_X1_hasSameSigns  (σ : MsSt) (l0 : Nat) (l1 : Int32) (l2 : Nat) (l3 : Int32) : Option (Int32) :=
  (f_X5_get σ (ms_rf l0 4) l1).bind fun v1 =>
  (f_X5_get σ (ms_rf l2 4) l3).bind fun v2 =>
  (f_X1_endOf σ l0 l1).bind fun v3 =>
  (f_X1_endOf σ l2 l3).bind fun v4 =>
  if (v3 - v1) = (v4 - v2) then
    f_X1_hasSameSigns_48 σ ms_fuel l0 l2 v1 v2 (v3 - v1) 0
  else
    some 0
def f_X1_isFoundAt_24  (σ : MsSt) : Nat → Nat → Nat → Int32 → Int32 → Int32 → Option (Int32)
  | 0, _, _, _, _, _ => none
  | n + 1, l0, l1, l2, l3, l4 =>
    if l4 < (ms_i σ (ms_rf l1 4) 1) then
      if l2 = 0 then
        (f_X1_hasSameSigns σ l0 (l3 + l4) l1 l4).bind fun v1 =>
        if v1 = 0 then
          some 0
        else
          (f_X1_isFoundAt_24 σ n) l0 l1 l2 l3 (l4 + 1)
      else
        (f_X5_get σ (ms_rf l0 5) (l3 + l4)).bind fun v2 =>
        (f_X5_get σ (ms_rf l1 5) l4).bind fun v3 =>
        if v2 = v3 then
          if (1 : Int32) = 0 then
            some 0
          else
            (f_X1_isFoundAt_24 σ n) l0 l1 l2 l3 (l4 + 1)
        else
          if (0 : Int32) = 0 then
            some 0
          else
            (f_X1_isFoundAt_24 σ n) l0 l1 l2 l3 (l4 + 1)
    else
      some 1
def f_X1_isFoundAt  (σ : MsSt) (l0 : Nat) (l1 : Nat) (l2 : Int32) (l3 : Int32) : Option (Int32) :=
  if (ms_i σ (ms_rf l0 4) 1) < (l3 + (ms_i σ (ms_rf l1 4) 1)) then
    some 0
  else
    f_X1_isFoundAt_24 σ ms_fuel l0 l1 l2 l3 0
def f_X2_memoryAt  (σ : MsSt) (l0 : Nat) (l1 : Int32) : Option (Option Nat) :=
  if l1 < 0 then
    some none
  else
    if l1 < (Int32.ofNat (ms_ln (ms_rf l0 0))) then
      (ms_ala (ms_rf l0 0) l1).bind fun v1 =>
      some (some v1)
    else
      some none
def f_X2_forget  (σ : MsSt) (l0 : Nat) : Option (MsSt) :=
  ms_nm (ms_si σ l0 2 0) fun s1 =>
  some s1
def f_X6_lineAt  (σ : MsSt) (l0 : Nat) (l1 : Int32) : Option (Nat) :=
  if l1 < 0 then
    some (ms_rf l0 3)
  else
    if l1 < (Int32.ofNat (ms_ln (ms_rf l0 1))) then
      (ms_ala (ms_rf l0 1) l1).bind fun v1 =>
      some v1
    else
      some (ms_rf l0 3)
def f_X3_keep_53   : Nat → MsSt → Nat → Nat → Int32 → Option (MsSt)
  | 0, _, _, _, _ => none
  | n + 1, σ, l0, l1, l2 =>
    if l2 < (ms_i σ l1 4) then
      (f_X6_told σ l1 l2).bind fun v4 =>
      (f_X5_add σ (ms_rf l0 1) (ms_i σ v4 4)).bind fun s5 =>
      (f_X6_told s5 l1 l2).bind fun v6 =>
      if (ms_i s5 v6 13) = 0 then
        (f_X5_add s5 (ms_rf l0 2) 0).bind fun s7 =>
        (f_X3_keep_53 n) s7 l0 l1 (l2 + 1)
      else
        (f_X5_add s5 (ms_rf l0 2) 1).bind fun s8 =>
        (f_X3_keep_53 n) s8 l0 l1 (l2 + 1)
    else
      ms_nm (ms_si σ l0 3 (ms_i σ l1 6)) fun s3 =>
      some s3
def f_X3_keep_2   : Nat → MsSt → Nat → Nat → Int32 → Option (MsSt)
  | 0, _, _, _, _ => none
  | n + 1, σ, l0, l1, l2 =>
    if l2 < (Int32.ofNat (ms_ln (ms_rf l0 0))) then
      (ms_ala (ms_rf l0 0) l2).bind fun v9 =>
      (f_X6_lineAt σ l1 l2).bind fun v10 =>
      (f_X5_takeOver σ v9 v10).bind fun s11 =>
      (f_X3_keep_2 n) s11 l0 l1 (l2 + 1)
    else
      (f_X5_clear σ (ms_rf l0 1)).bind fun s1 =>
      (f_X5_clear s1 (ms_rf l0 2)).bind fun s2 =>
      f_X3_keep_53 ms_fuel s2 l0 l1 0
def f_X3_keep  (σ : MsSt) (l0 : Nat) (l1 : Nat) : Option (MsSt) :=
  f_X3_keep_2 ms_fuel σ l0 l1 0
def f_X2_record_43   (σ : MsSt) (l0 : Nat) (t0 : Int32) (t1 : Nat) : Option (MsSt) :=
  ms_nm (ms_si σ t1 1 t0) fun s2 =>
  ms_nm (ms_si s2 l0 2 (if (Int32.ofNat (ms_ln (ms_rf l0 0))) < ((ms_i s2 l0 2) + 1) then (Int32.ofNat (ms_ln (ms_rf l0 0))) else ((ms_i s2 l0 2) + 1))) fun s3 =>
  some s3
def f_X2_record_18   (σ : MsSt) (l0 : Nat) : Option (MsSt) :=
  if ((ms_i σ l0 1) + 1) < (Int32.ofNat (ms_ln (ms_rf l0 0))) then
    f_X2_record_43 σ l0 ((ms_i σ l0 1) + 1) l0
  else
    f_X2_record_43 σ l0 0 l0
def f_X2_record  (σ : MsSt) (l0 : Nat) (l1 : Nat) : Option (MsSt) :=
  ms_bq (f_X2_memoryAt σ l0 (ms_i σ l0 1))
  (f_X2_record_18 σ l0)
  (fun v1 =>
    (f_X3_keep σ v1 l1).bind fun s4 =>
    f_X2_record_18 s4 l0)
def f_X3_giveBack_39   : Nat → MsSt → Nat → Nat → Int32 → Option (MsSt)
  | 0, _, _, _, _ => none
  | n + 1, σ, l0, l1, l2 =>
    if l2 < (ms_i σ l1 4) then
      (f_X6_told σ l1 l2).bind fun v2 =>
      (f_X5_get σ (ms_rf l0 1) l2).bind fun v3 =>
      ms_nm (ms_si σ v2 4 v3) fun s4 =>
      (f_X6_told s4 l1 l2).bind fun v5 =>
      (f_X5_get s4 (ms_rf l0 2) l2).bind fun v6 =>
      if v6 = 1 then
        ms_nm (ms_si s4 v5 13 1) fun s8 =>
        (f_X3_giveBack_39 n) s8 l0 l1 (l2 + 1)
      else
        ms_nm (ms_si s4 v5 13 0) fun s7 =>
        (f_X3_giveBack_39 n) s7 l0 l1 (l2 + 1)
    else
      ms_nm (ms_si σ l1 6 (ms_i σ l0 3)) fun s1 =>
      some s1
def f_X3_giveBack_2   : Nat → MsSt → Nat → Nat → Int32 → Option (MsSt)
  | 0, _, _, _, _ => none
  | n + 1, σ, l0, l1, l2 =>
    if l2 < (Int32.ofNat (ms_ln (ms_rf l0 0))) then
      (ms_ala (ms_rf l0 0) l2).bind fun v9 =>
      (f_X6_lineAt σ l1 l2).bind fun v10 =>
      (f_X5_takeOver σ v10 v9).bind fun s11 =>
      (f_X3_giveBack_2 n) s11 l0 l1 (l2 + 1)
    else
      f_X3_giveBack_39 ms_fuel σ l0 l1 0
def f_X3_giveBack  (σ : MsSt) (l0 : Nat) (l1 : Nat) : Option (MsSt) :=
  f_X3_giveBack_2 ms_fuel σ l0 l1 0
def f_X2_takeBack_33   (σ : MsSt) (l0 : Nat) (l1 : Nat) (t0 : Int32) (t1 : Nat) : Option (Int32 × MsSt) :=
  ms_nm (ms_si σ t1 1 t0) fun s1 =>
  ms_nm (ms_si s1 l0 2 ((ms_i s1 l0 2) - 1)) fun s2 =>
  ms_bq (f_X2_memoryAt s2 l0 (ms_i s2 l0 1))
  (some ((ms_i s2 l0 2), s2))
  (fun v3 =>
    (f_X3_giveBack s2 v3 l1).bind fun s4 =>
    some ((ms_i s4 l0 2), s4))
def f_X2_takeBack  (σ : MsSt) (l0 : Nat) (l1 : Nat) : Option (Int32 × MsSt) :=
  if (ms_i σ l0 2) = 0 then
    some ((-1), σ)
  else
    if 0 < (ms_i σ l0 1) then
      f_X2_takeBack_33 σ l0 l1 ((ms_i σ l0 1) - 1) l0
    else
      f_X2_takeBack_33 σ l0 l1 ((Int32.ofNat (ms_ln (ms_rf l0 0))) - 1) l0
def f_X6_clusterAt_5  (σ : MsSt) : Nat → Nat → Nat → Int32 → Int32 → Int32 → Option (Int32)
  | 0, _, _, _, _, _ => none
  | n + 1, l0, l1, l2, l3, l4 =>
    if l2 < l4 then
      some (l3 - 1)
    else
      if l4 < (ms_i σ l1 1) then
        if l4 = 0 then
          (f_X6_clusterAt_5 σ n) l0 l1 l2 (l3 + 1) (l4 + 1)
        else
          (f_X5_get σ l1 l4).bind fun v1 =>
          (f_X6_kindOf σ l0 v1).bind fun v2 =>
          if v2 = 1 then
            (f_X6_clusterAt_5 σ n) l0 l1 l2 l3 (l4 + 1)
          else
            (f_X6_clusterAt_5 σ n) l0 l1 l2 (l3 + 1) (l4 + 1)
      else
        some (l3 - 1)
def f_X6_clusterAt  (σ : MsSt) (l0 : Nat) (l1 : Nat) (l2 : Int32) : Option (Int32) :=
  f_X6_clusterAt_5 σ ms_fuel l0 l1 l2 0 0
def f_X4_tellLine_30   : Nat → MsSt → Nat → Int32 → Option (MsSt)
  | 0, _, _, _ => none
  | n + 1, σ, l0, l1 =>
    if l1 < (ms_i σ (ms_rf l0 2) 1) then
      (f_X6_clusterAt σ (ms_rf l0 1) (ms_rf l0 2) l1).bind fun v4 =>
      (f_X5_add σ (ms_rf l0 3) v4).bind fun s5 =>
      (f_X4_tellLine_30 n) s5 l0 (l1 + 1)
    else
      some σ
def f_X4_tellLine  (σ : MsSt) (l0 : Nat) : Option (MsSt) :=
  (f_X6_lineAt σ (ms_rf l0 1) (ms_i σ (ms_rf l0 1) 6)).bind fun v1 =>
  (f_X5_takeOver σ (ms_rf l0 2) v1).bind fun s2 =>
  (f_X5_clear s2 (ms_rf l0 3)).bind fun s3 =>
  f_X4_tellLine_30 ms_fuel s3 l0 0
def f_X9_byteAt  (σ : MsSt) (l0 : Nat) (l1 : Int32) : Option (Int32) :=
  if l1 < 0 then
    some 0
  else
    if l1 < (Int32.ofNat (ms_ln (ms_rf l0 0))) then
      (ms_ald σ (ms_rf l0 0) l1).bind fun v1 =>
      some v1
    else
      some 0
def f_X9_isSeparator  (σ : MsSt) (l0 : Int32) : Option (Int32) :=
  if l0 = 32 then
    some 1
  else
    if l0 = 10 then
      some 1
    else
      some 0
def f_X9_isLetter  (σ : MsSt) (l0 : Int32) : Option (Int32) :=
  if l0 < 97 then
    some 0
  else
    if 122 < l0 then
      some 0
    else
      some 1
def f_X9_isDigit  (σ : MsSt) (l0 : Int32) : Option (Int32) :=
  if l0 < 48 then
    some 0
  else
    if 57 < l0 then
      some 0
    else
      some 1
def f_X9_advance_154   : Nat → MsSt → Nat → Option (MsSt)
  | 0, _, _ => none
  | n + 1, σ, l0 =>
    if (ms_i σ l0 4) < (ms_i σ l0 2) then
      (f_X9_byteAt σ l0 (ms_i σ l0 4)).bind fun v12 =>
      (f_X9_isDigit σ v12).bind fun v13 =>
      if v13 = 0 then
        some σ
      else
        (f_X9_byteAt σ l0 (ms_i σ l0 4)).bind fun v14 =>
        ms_nm (ms_si σ l0 6 (if ((((ms_i σ l0 6) * 10) + v14) - 48) < 1000000 then ((((ms_i σ l0 6) * 10) + v14) - 48) else 1000000)) fun s15 =>
        ms_nm (ms_si s15 l0 4 ((ms_i s15 l0 4) + 1)) fun s16 =>
        (f_X9_advance_154 n) s16 l0
    else
      some σ
def f_X9_advance_92   : Nat → MsSt → Nat → Option (MsSt)
  | 0, _, _ => none
  | n + 1, σ, l0 =>
    if (ms_i σ l0 4) < (ms_i σ l0 2) then
      (f_X9_byteAt σ l0 (ms_i σ l0 4)).bind fun v18 =>
      (f_X9_isLetter σ v18).bind fun v19 =>
      if v19 = 0 then
        some σ
      else
        ms_nm (ms_si σ l0 4 ((ms_i σ l0 4) + 1)) fun s20 =>
        (f_X9_advance_92 n) s20 l0
    else
      some σ
def f_X9_advance_46   (σ : MsSt) (l0 : Nat) : Option (MsSt) :=
  ms_nm (ms_si σ l0 3 (ms_i σ l0 4)) fun s1 =>
  if (ms_i s1 l0 4) < (ms_i s1 l0 2) then
    (f_X9_byteAt s1 l0 (ms_i s1 l0 4)).bind fun v2 =>
    (f_X9_isLetter s1 v2).bind fun v3 =>
    if v3 = 0 then
      (f_X9_byteAt s1 l0 (ms_i s1 l0 4)).bind fun v4 =>
      (f_X9_isDigit s1 v4).bind fun v5 =>
      if v5 = 0 then
        ms_nm (ms_si s1 l0 5 3) fun s6 =>
        (f_X9_byteAt s6 l0 (ms_i s6 l0 4)).bind fun v7 =>
        ms_nm (ms_si s6 l0 6 v7) fun s8 =>
        ms_nm (ms_si s8 l0 4 ((ms_i s8 l0 4) + 1)) fun s9 =>
        some s9
      else
        ms_nm (ms_si s1 l0 5 2) fun s10 =>
        ms_nm (ms_si s10 l0 6 0) fun s11 =>
        f_X9_advance_154 ms_fuel s11 l0
    else
      ms_nm (ms_si s1 l0 5 1) fun s17 =>
      f_X9_advance_92 ms_fuel s17 l0
  else
    ms_nm (ms_si s1 l0 5 0) fun s21 =>
    some s21
def f_X9_advance_8   : Nat → MsSt → Nat → Option (MsSt)
  | 0, _, _ => none
  | n + 1, σ, l0 =>
    if (ms_i σ l0 4) < (ms_i σ l0 2) then
      (f_X9_byteAt σ l0 (ms_i σ l0 4)).bind fun v22 =>
      (f_X9_isSeparator σ v22).bind fun v23 =>
      if v23 = 0 then
        f_X9_advance_46 σ l0
      else
        ms_nm (ms_si σ l0 4 ((ms_i σ l0 4) + 1)) fun s24 =>
        (f_X9_advance_8 n) s24 l0
    else
      f_X9_advance_46 σ l0
def f_X9_advance  (σ : MsSt) (l0 : Nat) : Option (MsSt) :=
  if (ms_i σ l0 7) = 0 then
    f_X9_advance_8 ms_fuel σ l0
  else
    some σ
def f_X9_begin  (σ : MsSt) (l0 : Nat) (l1 : Int32) : Option (MsSt) :=
  ms_nm (ms_si σ l0 2 l1) fun s1 =>
  ms_nm (ms_si s1 l0 4 0) fun s2 =>
  ms_nm (ms_si s2 l0 7 0) fun s3 =>
  ms_nm (ms_si s3 l0 8 (-1)) fun s4 =>
  (f_X9_advance s4 l0).bind fun s5 =>
  some s5
def f_J0_coder_7d493  (σ : MsSt) (l0 : Nat) : Option (Int32) :=
  if (1 : Int32) = 0 then
    none
  else
    some 0
def f_J0_length_8abf5  (σ : MsSt) (l0 : Nat) : Option (Int32) :=
  (f_J0_coder_7d493 σ l0).bind fun v1 =>
  some ((Int32.ofNat (ms_txt ((200 + l0) - 200)).length) >>> (v1 &&& 31))
def f_J0_isLatin1_aae02  (σ : MsSt) (l0 : Nat) : Option (Int32) :=
  if (1 : Int32) = 0 then
    some 0
  else
    if (0 : Int32) = 0 then
      some 1
    else
      some 0
def f_J3_checkIndex_8e157  (σ : MsSt) (l0 : Int32) (l1 : Int32) : Option (Int32) :=
  if l0 < 0 then
    none
  else
    if l0 < l1 then
      some l0
    else
      none
def f_J0_checkIndex_df160  (σ : MsSt) (l0 : Int32) (l1 : Int32) : Option (Unit) :=
  (f_J3_checkIndex_8e157 σ l0 l1).bind fun v1 =>
  some ()
def f_J1_charAt_3b067  (σ : MsSt) (l0 : Nat) (l1 : Int32) : Option (Int32) :=
  (f_J0_checkIndex_df160 σ l1 (Int32.ofNat (ms_txt (l0 - 200)).length)).bind fun _ =>
  (ms_alt l0 l1).bind fun v1 =>
  some (((v1 &&& 255).toUInt32 % 65536).toInt32)
def f_J0_charAt_5068e  (σ : MsSt) (l0 : Nat) (l1 : Int32) : Option (Int32) :=
  (f_J0_isLatin1_aae02 σ l0).bind fun v1 =>
  if v1 = 0 then
    none
  else
    (f_J1_charAt_3b067 σ (200 + l0) l1).bind fun v2 =>
    (ms_cz v2).bind fun v3 =>
    some v3
def f_X9_isWord_28  (σ : MsSt) : Nat → Nat → Nat → Int32 → Option (Int32)
  | 0, _, _, _ => none
  | n + 1, l0, l1, l2 =>
    (f_J0_length_8abf5 σ l1).bind fun v2 =>
    if l2 < v2 then
      (f_J0_charAt_5068e σ l1 l2).bind fun v3 =>
      (f_X9_byteAt σ l0 ((ms_i σ l0 3) + l2)).bind fun v4 =>
      if v3 = v4 then
        (f_X9_isWord_28 σ n) l0 l1 (l2 + 1)
      else
        some 0
    else
      some 1
def f_X9_isWord  (σ : MsSt) (l0 : Nat) (l1 : Nat) : Option (Int32) :=
  if (ms_i σ l0 5) = 1 then
    (f_J0_length_8abf5 σ l1).bind fun v1 =>
    if ((ms_i σ l0 4) - (ms_i σ l0 3)) = v1 then
      f_X9_isWord_28 σ ms_fuel l0 l1 0
    else
      some 0
  else
    some 0
def f_X9_fail  (σ : MsSt) (l0 : Nat) (l1 : Int32) : Option (MsSt) :=
  if (ms_i σ l0 7) = 0 then
    ms_nm (ms_si σ l0 7 l1) fun s2 =>
    ms_nm (ms_si s2 l0 8 (ms_i s2 l0 3)) fun s3 =>
    ms_nm (ms_si s3 l0 5 0) fun s4 =>
    some s4
  else
    ms_nm (ms_si σ l0 5 0) fun s1 =>
    some s1
def f_X4_readConjunction_9 (r_X4_readFactor : MsSt → Nat → Int32 → Option (Int64 × MsSt))  : Nat → MsSt → Nat → Int32 → Int64 → Int32 → Option (Int64 × MsSt)
  | 0, _, _, _, _, _ => none
  | n + 1, σ, l0, l1, l2, l4 =>
    if l4 < 200 then
      (f_X9_isWord σ (ms_rf l0 0) 628).bind fun v3 =>
      if v3 = 0 then
        some (l2, σ)
      else
        (f_X9_advance σ (ms_rf l0 0)).bind fun s4 =>
        ms_b2 (r_X4_readFactor s4 l0 l1) fun v5 s6 =>
        (f_X4_readConjunction_9 r_X4_readFactor n) s6 l0 l1 (l2 &&& v5) (l4 + 1)
    else
      some (l2, σ)
def f_X4_readConjunction (r_X4_readFactor : MsSt → Nat → Int32 → Option (Int64 × MsSt)) (σ : MsSt) (l0 : Nat) (l1 : Int32) : Option (Int64 × MsSt) :=
  ms_b2 (r_X4_readFactor σ l0 l1) fun v1 s2 =>
  f_X4_readConjunction_9 r_X4_readFactor ms_fuel s2 l0 l1 v1 0
def f_X4_readTest_9 (r_X4_readFactor : MsSt → Nat → Int32 → Option (Int64 × MsSt))  : Nat → MsSt → Nat → Int32 → Int64 → Int32 → Option (Int64 × MsSt)
  | 0, _, _, _, _, _ => none
  | n + 1, σ, l0, l1, l2, l4 =>
    if l4 < 200 then
      (f_X9_isWord σ (ms_rf l0 0) 629).bind fun v3 =>
      if v3 = 0 then
        some (l2, σ)
      else
        (f_X9_advance σ (ms_rf l0 0)).bind fun s4 =>
        ms_b2 (f_X4_readConjunction r_X4_readFactor s4 l0 l1) fun v5 s6 =>
        (f_X4_readTest_9 r_X4_readFactor n) s6 l0 l1 (l2 ||| v5) (l4 + 1)
    else
      some (l2, σ)
def f_X4_readTest (r_X4_readFactor : MsSt → Nat → Int32 → Option (Int64 × MsSt)) (σ : MsSt) (l0 : Nat) (l1 : Int32) : Option (Int64 × MsSt) :=
  ms_b2 (f_X4_readConjunction r_X4_readFactor σ l0 l1) fun v1 s2 =>
  f_X4_readTest_9 r_X4_readFactor ms_fuel s2 l0 l1 v1 0
def f_X9_isSymbol  (σ : MsSt) (l0 : Nat) (l1 : Int32) : Option (Int32) :=
  if (ms_i σ l0 5) = 3 then
    if (ms_i σ l0 6) = l1 then
      some 1
    else
      some 0
  else
    some 0
def f_X9_takeNumber_32   (σ : MsSt) (l0 : Nat) : Option (Int32 × MsSt) :=
  (f_X9_fail σ l0 2).bind fun s1 =>
  (f_X9_advance s1 l0).bind fun s2 =>
  some ((ms_i s1 l0 6), s2)
def f_X9_takeNumber  (σ : MsSt) (l0 : Nat) (l1 : Int32) (l2 : Int32) : Option (Int32 × MsSt) :=
  if (ms_i σ l0 5) = 2 then
    if (ms_i σ l0 6) < l1 then
      f_X9_takeNumber_32 σ l0
    else
      if l2 < (ms_i σ l0 6) then
        f_X9_takeNumber_32 σ l0
      else
        (f_X9_advance σ l0).bind fun s3 =>
        some ((ms_i σ l0 6), s3)
  else
    (f_X9_fail σ l0 1).bind fun s4 =>
    (f_X9_advance s4 l0).bind fun s5 =>
    some ((ms_i s4 l0 6), s5)
def f_X4_propertyAhead  (σ : MsSt) (l0 : Nat) : Option (Int32) :=
  (f_X9_isWord σ (ms_rf l0 0) 622).bind fun v1 =>
  if v1 = 0 then
    (f_X9_isWord σ (ms_rf l0 0) 623).bind fun v2 =>
    if v2 = 0 then
      (f_X9_isWord σ (ms_rf l0 0) 624).bind fun v3 =>
      if v3 = 0 then
        (f_X9_isWord σ (ms_rf l0 0) 625).bind fun v4 =>
        if v4 = 0 then
          (f_X9_isWord σ (ms_rf l0 0) 626).bind fun v5 =>
          if v5 = 0 then
            (f_X9_isWord σ (ms_rf l0 0) 627).bind fun v6 =>
            if v6 = 0 then
              some (-1)
            else
              some 5
          else
            some 4
        else
          some 3
      else
        some 2
    else
      some 1
  else
    some 0
def f_X4_valueAt  (σ : MsSt) (l0 : Nat) (l1 : Int32) (l2 : Int32) : Option (Int32) :=
  (f_X5_get σ (ms_rf l0 2) l1).bind fun v1 =>
  (f_X6_told σ (ms_rf l0 1) v1).bind fun v2 =>
  if l2 = 0 then
    some l1
  else
  if l2 = 1 then
    some v1
  else
  if l2 = 2 then
    some (ms_i σ v2 1)
  else
  if l2 = 3 then
    some (ms_i σ v2 4)
  else
  if l2 = 4 then
    some (ms_i σ v2 3)
  else
  (f_X5_get σ (ms_rf l0 3) l1).bind fun v3 =>
  some v3
def f_X4_readValue_72   : Nat → MsSt → Nat → Nat → Int32 → Int32 → Option (MsSt)
  | 0, _, _, _, _, _ => none
  | n + 1, σ, l0, l1, l2, l3 =>
    if l3 < (ms_i σ (ms_rf l0 2) 1) then
      (f_X4_valueAt σ l0 l3 l2).bind fun v4 =>
      (f_X5_add σ l1 v4).bind fun s5 =>
      (f_X4_readValue_72 n) s5 l0 l1 l2 (l3 + 1)
    else
      (f_X9_advance σ (ms_rf l0 0)).bind fun s3 =>
      some s3
def f_X4_readValue_29   : Nat → MsSt → Nat → Nat → Int32 → Int32 → Option (MsSt)
  | 0, _, _, _, _, _ => none
  | n + 1, σ, l0, l1, l2, l3 =>
    if l3 < (ms_i σ (ms_rf l0 2) 1) then
      (f_X5_add σ l1 l2).bind fun s9 =>
      (f_X4_readValue_29 n) s9 l0 l1 l2 (l3 + 1)
    else
      some σ
def f_X4_readValue  (σ : MsSt) (l0 : Nat) (l1 : Nat) : Option (MsSt) :=
  (f_X5_clear σ l1).bind fun s1 =>
  if (ms_i s1 (ms_rf l0 0) 5) = 2 then
    ms_b2 (f_X9_takeNumber s1 (ms_rf l0 0) 0 9999) fun v7 s8 =>
    f_X4_readValue_29 ms_fuel s8 l0 l1 v7 0
  else
    (f_X4_propertyAhead s1 l0).bind fun v2 =>
    if v2 = (-1) then
      (f_X9_fail s1 (ms_rf l0 0) 1).bind fun s6 =>
      f_X4_readValue_72 ms_fuel s6 l0 l1 v2 0
    else
      f_X4_readValue_72 ms_fuel s1 l0 l1 v2 0
def f_J6_compare_7cf53  (σ : MsSt) (l0 : Int32) (l1 : Int32) : Option (Int32) :=
  if l0 < l1 then
    some (-1)
  else
    if l0 = l1 then
      some 0
    else
      some 1
def f_X4_readComparison_76   : Nat → MsSt → Nat → Int32 → Int32 → Int64 → Int32 → Option (Int64 × MsSt)
  | 0, _, _, _, _, _, _ => none
  | n + 1, σ, l0, l1, l2, l3, l5 =>
    if l5 < (ms_i σ (ms_rf l0 4) 1) then
      (f_X5_get σ (ms_rf l0 4) l5).bind fun v6 =>
      (f_X5_get σ (ms_rf l0 5) l5).bind fun v7 =>
      (f_J6_compare_7cf53 σ v6 v7).bind fun v8 =>
      if l1 = 0 then
        if l2 = 0 then
          if 0 < v8 then
            (f_X4_readComparison_76 n) σ l0 l1 l2 (l3 ||| (((1 : Int64) <<< (l5.toInt64 &&& 63)))) (l5 + 1)
          else
            (f_X4_readComparison_76 n) σ l0 l1 l2 l3 (l5 + 1)
        else
          if v8 = 0 then
            (f_X4_readComparison_76 n) σ l0 l1 l2 (l3 ||| (((1 : Int64) <<< (l5.toInt64 &&& 63)))) (l5 + 1)
          else
            (f_X4_readComparison_76 n) σ l0 l1 l2 l3 (l5 + 1)
      else
        if v8 < 0 then
          (f_X4_readComparison_76 n) σ l0 l1 l2 (l3 ||| (((1 : Int64) <<< (l5.toInt64 &&& 63)))) (l5 + 1)
        else
          (f_X4_readComparison_76 n) σ l0 l1 l2 l3 (l5 + 1)
    else
      some (l3, σ)
def f_X4_readComparison_56   (σ : MsSt) (l0 : Nat) (l1 : Int32) (l2 : Int32) : Option (Int64 × MsSt) :=
  (f_X9_advance σ (ms_rf l0 0)).bind fun s4 =>
  (f_X4_readValue s4 l0 (ms_rf l0 5)).bind fun s5 =>
  f_X4_readComparison_76 ms_fuel s5 l0 l1 l2 0 0
def f_X4_readComparison  (σ : MsSt) (l0 : Nat) : Option (Int64 × MsSt) :=
  (f_X4_readValue σ l0 (ms_rf l0 4)).bind fun s1 =>
  (f_X9_isSymbol s1 (ms_rf l0 0) 60).bind fun v2 =>
  (f_X9_isSymbol s1 (ms_rf l0 0) 61).bind fun v3 =>
  if v2 = 0 then
    if v3 = 0 then
      (f_X9_isSymbol s1 (ms_rf l0 0) 62).bind fun v9 =>
      if v9 = 0 then
        (f_X9_fail s1 (ms_rf l0 0) 1).bind fun s10 =>
        f_X4_readComparison_56 s10 l0 v2 v3
      else
        f_X4_readComparison_56 s1 l0 v2 v3
    else
      f_X4_readComparison_56 s1 l0 v2 v3
  else
    f_X4_readComparison_56 s1 l0 v2 v3
def f_X4_allPlaces  (σ : MsSt) (l0 : Nat) : Option (Int64) :=
  some ((((1 : Int64) <<< ((ms_i σ (ms_rf l0 2) 1).toInt64 &&& 63))) - 1)
def f_X9_takeSymbol  (σ : MsSt) (l0 : Nat) (l1 : Int32) : Option (MsSt) :=
  (f_X9_isSymbol σ l0 l1).bind fun v1 =>
  if v1 = 0 then
    (f_X9_fail σ l0 1).bind fun s3 =>
    (f_X9_advance s3 l0).bind fun s4 =>
    some s4
  else
    (f_X9_advance σ l0).bind fun s2 =>
    some s2
def f_X4_readFactor_31 (r_X4_readFactor : MsSt → Nat → Int32 → Option (Int64 × MsSt)) (r_X4_readTest : MsSt → Nat → Int32 → Option (Int64 × MsSt))  (σ : MsSt) (l0 : Nat) (l1 : Int32) (l2 : Int32) : Option (Int64 × MsSt) :=
  if l1 < 6 then
    (f_X9_advance σ (ms_rf l0 0)).bind fun s2 =>
    if l2 = 0 then
      ms_b2 (r_X4_readTest s2 l0 (l1 + 1)) fun v3 s4 =>
      (f_X9_takeSymbol s4 (ms_rf l0 0) 41).bind fun s5 =>
      some (v3, s5)
    else
      (f_X4_allPlaces s2 l0).bind fun v6 =>
      ms_b2 (r_X4_readFactor s2 l0 (l1 + 1)) fun v7 s8 =>
      some ((v6 &&& (v7 ^^^ (-1))), s8)
  else
    (f_X9_fail σ (ms_rf l0 0) 3).bind fun s9 =>
    some (0, s9)
def f_X4_readFactor (r_X4_readFactor : MsSt → Nat → Int32 → Option (Int64 × MsSt)) (r_X4_readTest : MsSt → Nat → Int32 → Option (Int64 × MsSt)) (σ : MsSt) (l0 : Nat) (l1 : Int32) : Option (Int64 × MsSt) :=
  (f_X9_isWord σ (ms_rf l0 0) 621).bind fun v1 =>
  if v1 = 0 then
    (f_X9_isSymbol σ (ms_rf l0 0) 40).bind fun v10 =>
    if v10 = 0 then
      ms_b2 (f_X4_readComparison σ l0) fun v11 s12 =>
      some (v11, s12)
    else
      f_X4_readFactor_31 r_X4_readFactor r_X4_readTest σ l0 l1 v1
  else
    f_X4_readFactor_31 r_X4_readFactor r_X4_readTest σ l0 l1 v1
def rec_X4_readFactor : Nat → MsSt → Nat → Int32 → Option (Int64 × MsSt)
  | 0 => fun _ _ _ => none
  | j + 1 => f_X4_readFactor (rec_X4_readFactor j) (f_X4_readTest (rec_X4_readFactor j))
def f_X9_takeEnd  (σ : MsSt) (l0 : Nat) : Option (MsSt) :=
  if (ms_i σ l0 5) = 0 then
    some σ
  else
    (f_X9_fail σ l0 1).bind fun s1 =>
    some s1
def f_J13_bitCount_95d88  (σ : MsSt) (l0 : Int64) : Option (Int32) :=
  ms_nm ((l0 - (((l0.toUInt64 >>> ((1 : Int32).toInt64.toUInt64 &&& Int64.toUInt64 63)).toInt64) &&& 6148914691236517205)) : Int64) fun v1 =>
  ms_nm (((v1 &&& 3689348814741910323) + (((v1.toUInt64 >>> ((2 : Int32).toInt64.toUInt64 &&& Int64.toUInt64 63)).toInt64) &&& 3689348814741910323)) : Int64) fun v2 =>
  ms_nm (((v2 + ((v2.toUInt64 >>> ((4 : Int32).toInt64.toUInt64 &&& Int64.toUInt64 63)).toInt64)) &&& 1085102592571150095) : Int64) fun v3 =>
  ms_nm ((v3 + ((v3.toUInt64 >>> ((8 : Int32).toInt64.toUInt64 &&& Int64.toUInt64 63)).toInt64)) : Int64) fun v4 =>
  ms_nm ((v4 + ((v4.toUInt64 >>> ((16 : Int32).toInt64.toUInt64 &&& Int64.toUInt64 63)).toInt64)) : Int64) fun v5 =>
  ms_nm ((v5 + ((v5.toUInt64 >>> ((32 : Int32).toInt64.toUInt64 &&& Int64.toUInt64 63)).toInt64)) : Int64) fun v6 =>
  some (v6.toInt32 &&& 127)
def f_J6_numberOfTrailingZeros_0f7a4_62  (σ : MsSt)  (l0 : Int32) (l1 : Int32) : Option (Int32) :=
  if 4 < l0 then
    some ((l1 + 2) + ((((l0.toUInt32 >>> ((2 : Int32).toUInt32 &&& Int32.toUInt32 31)).toInt32).toUInt32 >>> ((1 : Int32).toUInt32 &&& Int32.toUInt32 31)).toInt32))
  else
    some (l1 + ((l0.toUInt32 >>> ((1 : Int32).toUInt32 &&& Int32.toUInt32 31)).toInt32))
def f_J6_numberOfTrailingZeros_0f7a4_49  (σ : MsSt)  (l0 : Int32) (l1 : Int32) : Option (Int32) :=
  if 16 < l0 then
    f_J6_numberOfTrailingZeros_0f7a4_62 σ ((l0.toUInt32 >>> ((4 : Int32).toUInt32 &&& Int32.toUInt32 31)).toInt32) (l1 + 4)
  else
    f_J6_numberOfTrailingZeros_0f7a4_62 σ l0 l1
def f_J6_numberOfTrailingZeros_0f7a4_34  (σ : MsSt)  (l0 : Int32) (l1 : Int32) : Option (Int32) :=
  if 256 < l0 then
    f_J6_numberOfTrailingZeros_0f7a4_49 σ ((l0.toUInt32 >>> ((8 : Int32).toUInt32 &&& Int32.toUInt32 31)).toInt32) (l1 + 8)
  else
    f_J6_numberOfTrailingZeros_0f7a4_49 σ l0 l1
def f_J6_numberOfTrailingZeros_0f7a4  (σ : MsSt) (l0 : Int32) : Option (Int32) :=
  if 0 < ((l0 ^^^ (-1)) &&& (l0 - 1)) then
    if 65536 < ((l0 ^^^ (-1)) &&& (l0 - 1)) then
      ms_nm (((((l0 ^^^ (-1)) &&& (l0 - 1)).toUInt32 >>> ((16 : Int32).toUInt32 &&& Int32.toUInt32 31)).toInt32) : Int32) fun v1 =>
      f_J6_numberOfTrailingZeros_0f7a4_34 σ v1 (1 + 16)
    else
      f_J6_numberOfTrailingZeros_0f7a4_34 σ ((l0 ^^^ (-1)) &&& (l0 - 1)) 1
  else
    some (((l0 ^^^ (-1)) &&& (l0 - 1)) &&& 32)
def f_J13_numberOfTrailingZeros_95d88  (σ : MsSt) (l0 : Int64) : Option (Int32) :=
  if l0.toInt32 = 0 then
    (f_J6_numberOfTrailingZeros_0f7a4 σ (((l0.toUInt64 >>> ((32 : Int32).toInt64.toUInt64 &&& Int64.toUInt64 63)).toInt64).toInt32)).bind fun v2 =>
    some (32 + v2)
  else
    (f_J6_numberOfTrailingZeros_0f7a4 σ l0.toInt32).bind fun v1 =>
    some v1
def f_X4_readQuery_46   (σ : MsSt) (l0 : Nat) (l2 : Int32) : Option (Int32 × MsSt) :=
  (f_X9_advance σ (ms_rf l0 0)).bind fun s4 =>
  ms_b2 (f_X4_readTest (rec_X4_readFactor 7) s4 l0 0) fun v5 s6 =>
  (f_X9_takeEnd s6 (ms_rf l0 0)).bind fun s7 =>
  if l2 = 0 then
    if (lg_cmp v5 0) = 0 then
      some ((-1), s7)
    else
      (f_J13_numberOfTrailingZeros_95d88 s7 v5).bind fun v8 =>
      some (v8, s7)
  else
    (f_J13_bitCount_95d88 s7 v5).bind fun v9 =>
    some (v9, s7)
def f_X4_readQuery  (σ : MsSt) (l0 : Nat) (l1 : Int32) : Option (Int32 × MsSt) :=
  (f_X4_tellLine σ l0).bind fun s1 =>
  (f_X9_begin s1 (ms_rf l0 0) l1).bind fun s2 =>
  (f_X9_isWord s2 (ms_rf l0 0) 619).bind fun v3 =>
  if v3 = 0 then
    (f_X9_isWord s2 (ms_rf l0 0) 620).bind fun v10 =>
    if v10 = 0 then
      (f_X9_fail s2 (ms_rf l0 0) 1).bind fun s11 =>
      f_X4_readQuery_46 s11 l0 v3
    else
      f_X4_readQuery_46 s2 l0 v3
  else
    f_X4_readQuery_46 s2 l0 v3
def f_X5_insert_12   : Nat → MsSt → Nat → Int32 → Int32 → Int32 → Option (MsSt)
  | 0, _, _, _, _, _ => none
  | n + 1, σ, l0, l1, l2, l3 =>
    if l1 < l3 then
      (f_X5_get σ l0 (l3 - 1)).bind fun v3 =>
      (f_X5_put σ l0 l3 v3).bind fun s4 =>
      (f_X5_insert_12 n) s4 l0 l1 l2 (l3 + (-1))
    else
      (f_X5_put σ l0 l1 l2).bind fun s2 =>
      some s2
def f_X5_insert  (σ : MsSt) (l0 : Nat) (l1 : Int32) (l2 : Int32) : Option (MsSt) :=
  (f_X5_add σ l0 l2).bind fun s1 =>
  f_X5_insert_12 ms_fuel s1 l0 l1 l2 ((ms_i s1 l0 1) - 1)
def f_X5_cut_26  (k5 : MsSt → Nat → Int32 → Int32 → Int32 → Int32 → Option (MsSt)) (σ : MsSt) (l0 : Nat) (l1 : Int32) (l2 : Int32) (l3 : Int32) (l4 : Int32) : Option (MsSt) :=
  (f_X5_get σ l0 l4).bind fun v2 =>
  (f_X5_put σ l0 l3 v2).bind fun s3 =>
  k5 s3 l0 l1 l2 (l3 + 1) (l4 + 1)
def f_X5_cut_5   : Nat → MsSt → Nat → Int32 → Int32 → Int32 → Int32 → Option (MsSt)
  | 0, _, _, _, _, _, _ => none
  | n + 1, σ, l0, l1, l2, l3, l4 =>
    if l4 < (ms_i σ l0 1) then
      if l4 < l1 then
        f_X5_cut_26 (f_X5_cut_5 n) σ l0 l1 l2 l3 l4
      else
        if l2 < l4 then
          f_X5_cut_26 (f_X5_cut_5 n) σ l0 l1 l2 l3 l4
        else
          (f_X5_cut_5 n) σ l0 l1 l2 l3 (l4 + 1)
    else
      ms_nm (ms_si σ l0 1 l3) fun s1 =>
      some s1
def f_X5_cut  (σ : MsSt) (l0 : Nat) (l1 : Int32) (l2 : Int32) : Option (MsSt) :=
  f_X5_cut_5 ms_fuel σ l0 l1 l2 0 0
def f_X5_contains_2  (σ : MsSt) : Nat → Nat → Int32 → Int32 → Option (Int32)
  | 0, _, _, _ => none
  | n + 1, l0, l1, l2 =>
    if l2 < (ms_i σ l0 1) then
      (f_X5_get σ l0 l2).bind fun v1 =>
      if v1 = l1 then
        some 1
      else
        (f_X5_contains_2 σ n) l0 l1 (l2 + 1)
    else
      some 0
def f_X5_contains  (σ : MsSt) (l0 : Nat) (l1 : Int32) : Option (Int32) :=
  f_X5_contains_2 σ ms_fuel l0 l1 0
def f_X5_firstUnlike_14  (σ : MsSt) : Nat → Nat → Nat → Int32 → Int32 → Option (Int32)
  | 0, _, _, _, _ => none
  | n + 1, l0, l1, l2, l3 =>
    if l3 < l2 then
      (f_X5_get σ l0 l3).bind fun v1 =>
      (f_X5_get σ l1 l3).bind fun v2 =>
      if v1 = v2 then
        (f_X5_firstUnlike_14 σ n) l0 l1 l2 (l3 + 1)
      else
        some l3
    else
      some (-1)
def f_X5_firstUnlike  (σ : MsSt) (l0 : Nat) (l1 : Nat) : Option (Int32) :=
  f_X5_firstUnlike_14 σ ms_fuel l0 l1 (if (ms_i σ l0 1) < (ms_i σ l1 1) then (ms_i σ l1 1) else (ms_i σ l0 1)) 0
def f_X6_empty_2   : Nat → MsSt → Nat → Int32 → Option (MsSt)
  | 0, _, _, _ => none
  | n + 1, σ, l0, l1 =>
    if l1 < (Int32.ofNat (ms_ln (ms_rf l0 1))) then
      (f_X6_lineAt σ l0 l1).bind fun v4 =>
      (f_X5_clear σ v4).bind fun s5 =>
      (f_X6_empty_2 n) s5 l0 (l1 + 1)
    else
      ms_nm (ms_si σ l0 4 0) fun s1 =>
      ms_nm (ms_si s1 l0 5 0) fun s2 =>
      ms_nm (ms_si s2 l0 6 0) fun s3 =>
      some s3
def f_X6_empty  (σ : MsSt) (l0 : Nat) : Option (MsSt) :=
  f_X6_empty_2 ms_fuel σ l0 0
def f_X6_countKind_4  (σ : MsSt) : Nat → Nat → Int32 → Int32 → Int32 → Option (Int32)
  | 0, _, _, _, _ => none
  | n + 1, l0, l1, l2, l3 =>
    if l3 < (ms_i σ l0 4) then
      (f_X6_told σ l0 l3).bind fun v1 =>
      if (ms_i σ v1 1) = l1 then
        (f_X6_countKind_4 σ n) l0 l1 (l2 + 1) (l3 + 1)
      else
        (f_X6_countKind_4 σ n) l0 l1 l2 (l3 + 1)
    else
      some l2
def f_X6_countKind  (σ : MsSt) (l0 : Nat) (l1 : Int32) : Option (Int32) :=
  f_X6_countKind_4 σ ms_fuel l0 l1 0 0
def f_X6_countSpare_4  (σ : MsSt) : Nat → Nat → Int32 → Int32 → Option (Int32)
  | 0, _, _, _ => none
  | n + 1, l0, l1, l2 =>
    if l2 < (ms_i σ l0 4) then
      (f_X6_told σ l0 l2).bind fun v1 =>
      if (ms_i σ v1 13) = 0 then
        (f_X6_countSpare_4 σ n) l0 l1 (l2 + 1)
      else
        (f_X6_countSpare_4 σ n) l0 (l1 + 1) (l2 + 1)
    else
      some l1
def f_X6_countSpare  (σ : MsSt) (l0 : Nat) : Option (Int32) :=
  f_X6_countSpare_4 σ ms_fuel l0 0 0
def f_X6_countExpandedWith_4  (σ : MsSt) : Nat → Nat → Int32 → Int32 → Int32 → Option (Int32)
  | 0, _, _, _, _ => none
  | n + 1, l0, l1, l2, l3 =>
    if l3 < (ms_i σ l0 4) then
      (f_X6_kindOf σ l0 l3).bind fun v1 =>
      if v1 = 2 then
        (f_X6_told σ l0 l3).bind fun v2 =>
        (f_X5_contains σ (ms_rf v2 0) l1).bind fun v3 =>
        if v3 = 0 then
          (f_X6_countExpandedWith_4 σ n) l0 l1 l2 (l3 + 1)
        else
          (f_X6_countExpandedWith_4 σ n) l0 l1 (l2 + 1) (l3 + 1)
      else
        (f_X6_countExpandedWith_4 σ n) l0 l1 l2 (l3 + 1)
    else
      some l2
def f_X6_countExpandedWith  (σ : MsSt) (l0 : Nat) (l1 : Int32) : Option (Int32) :=
  f_X6_countExpandedWith_4 σ ms_fuel l0 l1 0 0
def f_X6_countLinesWith_4  (σ : MsSt) : Nat → Nat → Int32 → Int32 → Int32 → Option (Int32)
  | 0, _, _, _, _ => none
  | n + 1, l0, l1, l2, l3 =>
    if l3 < (ms_i σ l0 5) then
      (f_X6_lineAt σ l0 l3).bind fun v1 =>
      (f_X5_contains σ v1 l1).bind fun v2 =>
      if v2 = 0 then
        (f_X6_countLinesWith_4 σ n) l0 l1 l2 (l3 + 1)
      else
        (f_X6_countLinesWith_4 σ n) l0 l1 (l2 + 1) (l3 + 1)
    else
      some l2
def f_X6_countLinesWith  (σ : MsSt) (l0 : Nat) (l1 : Int32) : Option (Int32) :=
  f_X6_countLinesWith_4 σ ms_fuel l0 l1 0 0
def f_X6_findName_2  (σ : MsSt) : Nat → Nat → Int32 → Int32 → Option (Int32)
  | 0, _, _, _ => none
  | n + 1, l0, l1, l2 =>
    if l2 < (ms_i σ l0 4) then
      (f_X6_told σ l0 l2).bind fun v1 =>
      if (ms_i σ v1 2) = l1 then
        some l2
      else
        (f_X6_findName_2 σ n) l0 l1 (l2 + 1)
    else
      some (-1)
def f_X6_findName  (σ : MsSt) (l0 : Nat) (l1 : Int32) : Option (Int32) :=
  f_X6_findName_2 σ ms_fuel l0 l1 0
def f_X6_sideOfClass_2  (σ : MsSt) : Nat → Nat → Int32 → Int32 → Int32 → Option (Int32)
  | 0, _, _, _, _ => none
  | n + 1, l0, l1, l2, l3 =>
    if l3 < (ms_i σ l0 4) then
      if l3 = l2 then
        (f_X6_sideOfClass_2 σ n) l0 l1 l2 (l3 + 1)
      else
        (f_X6_kindOf σ l0 l3).bind fun v1 =>
        if v1 = 1 then
          (f_X6_classOf σ l0 l3).bind fun v2 =>
          if v2 = l1 then
            (f_X6_told σ l0 l3).bind fun v3 =>
            some (ms_i σ v3 5)
          else
            (f_X6_sideOfClass_2 σ n) l0 l1 l2 (l3 + 1)
        else
          (f_X6_sideOfClass_2 σ n) l0 l1 l2 (l3 + 1)
    else
      some (-1)
def f_X6_sideOfClass  (σ : MsSt) (l0 : Nat) (l1 : Int32) (l2 : Int32) : Option (Int32) :=
  f_X6_sideOfClass_2 σ ms_fuel l0 l1 l2 0
def f_X6_mayHaveClass  (σ : MsSt) (l0 : Nat) (l1 : Int32) (l2 : Int32) : Option (Int32) :=
  (f_X6_sideOfClass σ l0 l2 l1).bind fun v1 =>
  if v1 = (-1) then
    some 1
  else
    (f_X6_told σ l0 l1).bind fun v2 =>
    if v1 = (ms_i σ v2 5) then
      some 1
    else
      some 0
def f_X7_takeOver  (σ : MsSt) (l0 : Nat) (l1 : Nat) : Option (MsSt) :=
  (f_X5_takeOver σ (ms_rf l0 0) (ms_rf l1 0)).bind fun s1 =>
  ms_nm (ms_si s1 l0 1 (ms_i s1 l1 1)) fun s2 =>
  ms_nm (ms_si s2 l0 2 (ms_i s2 l1 2)) fun s3 =>
  ms_nm (ms_si s3 l0 3 (ms_i s3 l1 3)) fun s4 =>
  ms_nm (ms_si s4 l0 4 (ms_i s4 l1 4)) fun s5 =>
  ms_nm (ms_si s5 l0 5 (ms_i s5 l1 5)) fun s6 =>
  ms_nm (ms_si s6 l0 6 (ms_i s6 l1 6)) fun s7 =>
  ms_nm (ms_si s7 l0 7 (ms_i s7 l1 7)) fun s8 =>
  ms_nm (ms_si s8 l0 8 (ms_i s8 l1 8)) fun s9 =>
  ms_nm (ms_si s9 l0 9 (ms_i s9 l1 9)) fun s10 =>
  ms_nm (ms_si s10 l0 10 (ms_i s10 l1 10)) fun s11 =>
  ms_nm (ms_si s11 l0 11 (ms_i s11 l1 11)) fun s12 =>
  ms_nm (ms_si s12 l0 12 (ms_i s12 l1 12)) fun s13 =>
  (ms_bz (ms_i s13 l1 13)).bind fun v14 =>
  ms_nm (ms_si s13 l0 13 v14) fun s15 =>
  some s15
def f_X6_takeOver_31   : Nat → MsSt → Nat → Nat → Int32 → Option (MsSt)
  | 0, _, _, _, _ => none
  | n + 1, σ, l0, l1, l2 =>
    if l2 < (Int32.ofNat (ms_ln (ms_rf l0 1))) then
      (f_X6_lineAt σ l0 l2).bind fun v4 =>
      (f_X6_lineAt σ l1 l2).bind fun v5 =>
      (f_X5_takeOver σ v4 v5).bind fun s6 =>
      (f_X6_takeOver_31 n) s6 l0 l1 (l2 + 1)
    else
      ms_nm (ms_si σ l0 4 (ms_i σ l1 4)) fun s1 =>
      ms_nm (ms_si s1 l0 5 (ms_i s1 l1 5)) fun s2 =>
      ms_nm (ms_si s2 l0 6 (ms_i s2 l1 6)) fun s3 =>
      some s3
def f_X6_takeOver_2   : Nat → MsSt → Nat → Nat → Int32 → Option (MsSt)
  | 0, _, _, _, _ => none
  | n + 1, σ, l0, l1, l2 =>
    if l2 < (ms_i σ l1 4) then
      (f_X6_told σ l0 l2).bind fun v7 =>
      (f_X6_told σ l1 l2).bind fun v8 =>
      (f_X7_takeOver σ v7 v8).bind fun s9 =>
      (f_X6_takeOver_2 n) s9 l0 l1 (l2 + 1)
    else
      f_X6_takeOver_31 ms_fuel σ l0 l1 0
def f_X6_takeOver  (σ : MsSt) (l0 : Nat) (l1 : Nat) : Option (MsSt) :=
  f_X6_takeOver_2 ms_fuel σ l0 l1 0
def f_X7_begin  (σ : MsSt) (l0 : Nat) (l1 : Int32) (l2 : Int32) : Option (MsSt) :=
  ms_nm (ms_si σ l0 1 l1) fun s1 =>
  ms_nm (ms_si s1 l0 2 l2) fun s2 =>
  ms_nm (ms_si s2 l0 3 0) fun s3 =>
  ms_nm (ms_si s3 l0 4 0) fun s4 =>
  ms_nm (ms_si s4 l0 5 (-1)) fun s5 =>
  ms_nm (ms_si s5 l0 6 0) fun s6 =>
  ms_nm (ms_si s6 l0 7 0) fun s7 =>
  ms_nm (ms_si s7 l0 8 0) fun s8 =>
  ms_nm (ms_si s8 l0 9 0) fun s9 =>
  ms_nm (ms_si s9 l0 10 0) fun s10 =>
  ms_nm (ms_si s10 l0 11 (-1)) fun s11 =>
  ms_nm (ms_si s11 l0 12 (-1)) fun s12 =>
  ms_nm (ms_si s12 l0 13 0) fun s13 =>
  (f_X5_clear s13 (ms_rf l0 0)).bind fun s14 =>
  some s14
def f_X7_addPart  (σ : MsSt) (l0 : Nat) (l1 : Int32) : Option (MsSt) :=
  (f_X5_add σ (ms_rf l0 0) l1).bind fun s1 =>
  ms_nm (ms_si s1 l0 3 (ms_i s1 (ms_rf l0 0) 1)) fun s2 =>
  some s2
def f_X7_part  (σ : MsSt) (l0 : Nat) (l1 : Int32) : Option (Int32) :=
  (f_X5_get σ (ms_rf l0 0) l1).bind fun v1 =>
  some v1
def f_X7_letterAt  (σ : MsSt) (l0 : Nat) (l1 : Int32) : Option (Int32) :=
  if l1 < 0 then
    some (-1)
  else
    if l1 < 4 then
      if (((ms_i σ l0 2) >>> ((8 * l1) &&& 31)) &&& 255) = 0 then
        some (-1)
      else
        some (((ms_i σ l0 2) >>> ((8 * l1) &&& 31)) &&& 255)
    else
      some (-1)
def f_X7_number  (σ : MsSt) (l0 : Nat) (l1 : Int32) : Option (Int32) :=
  if l1 = 0 then
    some (ms_i σ l0 1)
  else
  if l1 = 1 then
    some (ms_i σ l0 4)
  else
  if l1 = 2 then
    some (ms_i σ l0 3)
  else
  if l1 = 3 then
    if (ms_i σ l0 1) = 2 then
      some (ms_i σ l0 11)
    else
      some (ms_i σ l0 6)
  else
  if l1 = 4 then
    if (ms_i σ l0 1) = 2 then
      some (ms_i σ l0 12)
    else
      some (ms_i σ l0 7)
  else
  if l1 = 5 then
    if (ms_i σ l0 1) = 2 then
      if (ms_i σ l0 13) = 0 then
        some 0
      else
        some 1
    else
      if (ms_i σ l0 1) = 1 then
        some (ms_i σ l0 10)
      else
        some (ms_i σ l0 8)
  else
  if (ms_i σ l0 1) = 1 then
    some (ms_i σ l0 5)
  else
    some (ms_i σ l0 9)
def f_X8_isSignAhead  (σ : MsSt) (l0 : Nat) : Option (Int32) :=
  (f_X9_isWord σ (ms_rf l0 0) 601).bind fun v1 =>
  if v1 = 0 then
    (f_X9_isWord σ (ms_rf l0 0) 602).bind fun v2 =>
    if v2 = 0 then
      (f_X9_isWord σ (ms_rf l0 0) 603).bind fun v3 =>
      if v3 = 0 then
        some 0
      else
        some 1
    else
      some 1
  else
    some 1
def f_X9_packedName_4  (σ : MsSt) : Nat → Nat → Int32 → Int32 → Option (Int32)
  | 0, _, _, _ => none
  | n + 1, l0, l1, l2 =>
    if l2 < 4 then
      if ((ms_i σ l0 3) + l2) < (ms_i σ l0 4) then
        (f_X9_byteAt σ l0 ((ms_i σ l0 3) + l2)).bind fun v1 =>
        (f_X9_packedName_4 σ n) l0 (l1 ||| (v1 <<< ((8 * l2) &&& 31))) (l2 + 1)
      else
        some l1
    else
      some l1
def f_X9_packedName  (σ : MsSt) (l0 : Nat) : Option (Int32) :=
  f_X9_packedName_4 σ ms_fuel l0 0 0
def f_X9_isName  (σ : MsSt) (l0 : Nat) : Option (Int32) :=
  if (ms_i σ l0 5) = 1 then
    if 4 < ((ms_i σ l0 4) - (ms_i σ l0 3)) then
      some 0
    else
      (f_X9_isWord σ l0 604).bind fun v1 =>
      if v1 = 0 then
        (f_X9_isWord σ l0 605).bind fun v2 =>
        if v2 = 0 then
          (f_X9_isWord σ l0 606).bind fun v3 =>
          if v3 = 0 then
            (f_X9_isWord σ l0 607).bind fun v4 =>
            if v4 = 0 then
              (f_X9_isWord σ l0 608).bind fun v5 =>
              if v5 = 0 then
                some 1
              else
                some 0
            else
              some 0
          else
            some 0
        else
          some 0
      else
        some 0
  else
    some 0
def f_X8_takeName  (σ : MsSt) (l0 : Nat) : Option (Int32 × MsSt) :=
  (f_X9_packedName σ (ms_rf l0 0)).bind fun v1 =>
  (f_X9_isName σ (ms_rf l0 0)).bind fun v2 =>
  if v2 = 0 then
    (f_X9_fail σ (ms_rf l0 0) 1).bind fun s7 =>
    (f_X9_advance s7 (ms_rf l0 0)).bind fun s8 =>
    some (v1, s8)
  else
    (f_X6_findName σ (ms_rf l0 1) v1).bind fun v3 =>
    if v3 = (-1) then
      (f_X9_advance σ (ms_rf l0 0)).bind fun s4 =>
      some (v1, s4)
    else
      (f_X9_fail σ (ms_rf l0 0) 3).bind fun s5 =>
      (f_X9_advance s5 (ms_rf l0 0)).bind fun s6 =>
      some (v1, s6)
def f_X8_beginSign  (σ : MsSt) (l0 : Nat) (l1 : Int32) : Option (Nat × MsSt) :=
  (f_X9_advance σ (ms_rf l0 0)).bind fun s1 =>
  (f_X6_told s1 (ms_rf l0 1) (ms_i s1 (ms_rf l0 1) 4)).bind fun v2 =>
  ms_b2 (f_X8_takeName s1 l0) fun v3 s4 =>
  (f_X7_begin s4 v2 l1 v3).bind fun s5 =>
  some (v2, s5)
def f_X8_endSign  (σ : MsSt) (l0 : Nat) : Option (MsSt) :=
  (f_X9_takeSymbol σ (ms_rf l0 0) 59).bind fun s1 =>
  ms_nm (ms_si s1 (ms_rf l0 1) 4 ((ms_i s1 (ms_rf l0 1) 4) + 1)) fun s2 =>
  some s2
def f_X8_readBase  (σ : MsSt) (l0 : Nat) : Option (MsSt) :=
  ms_b2 (f_X8_beginSign σ l0 0) fun v1 s2 =>
  ms_b2 (f_X9_takeNumber s2 (ms_rf l0 0) 1 20) fun v3 s4 =>
  ms_nm (ms_si s4 v1 6 v3) fun s5 =>
  ms_b2 (f_X9_takeNumber s5 (ms_rf l0 0) 1 20) fun v6 s7 =>
  ms_nm (ms_si s7 v1 7 v6) fun s8 =>
  ms_b2 (f_X9_takeNumber s8 (ms_rf l0 0) 0 20) fun v9 s10 =>
  ms_nm (ms_si s10 v1 8 v9) fun s11 =>
  ms_b2 (f_X9_takeNumber s11 (ms_rf l0 0) 0 20) fun v12 s13 =>
  ms_nm (ms_si s13 v1 9 v12) fun s14 =>
  (f_X7_addPart s14 v1 (ms_i s14 (ms_rf l0 1) 4)).bind fun s15 =>
  (f_X8_endSign s15 l0).bind fun s16 =>
  some s16
def f_X8_takeSide_49   (σ : MsSt) (l0 : Nat) (l1 : Int32) (t0 : Int32) : Option (Int32 × MsSt) :=
  (f_X6_sideOfClass σ (ms_rf l0 1) l1 (-1)).bind fun v4 =>
  if t0 = (-1) then
    (f_X9_fail σ (ms_rf l0 0) 1).bind fun s9 =>
    (f_X9_advance s9 (ms_rf l0 0)).bind fun s10 =>
    some (t0, s10)
  else
    if v4 = (-1) then
      (f_X9_advance σ (ms_rf l0 0)).bind fun s5 =>
      some (t0, s5)
    else
      if v4 = t0 then
        (f_X9_advance σ (ms_rf l0 0)).bind fun s6 =>
        some (t0, s6)
      else
        (f_X9_fail σ (ms_rf l0 0) 4).bind fun s7 =>
        (f_X9_advance s7 (ms_rf l0 0)).bind fun s8 =>
        some (t0, s8)
def f_X8_takeSide  (σ : MsSt) (l0 : Nat) (l1 : Int32) : Option (Int32 × MsSt) :=
  (f_X9_isWord σ (ms_rf l0 0) 609).bind fun v1 =>
  if v1 = 0 then
    (f_X9_isWord σ (ms_rf l0 0) 610).bind fun v2 =>
    if v2 = 0 then
      (f_X9_isWord σ (ms_rf l0 0) 611).bind fun v3 =>
      if v3 = 0 then
        f_X8_takeSide_49 σ l0 l1 (-1)
      else
        f_X8_takeSide_49 σ l0 l1 2
    else
      f_X8_takeSide_49 σ l0 l1 1
  else
    f_X8_takeSide_49 σ l0 l1 0
def f_X8_readMark  (σ : MsSt) (l0 : Nat) : Option (MsSt) :=
  ms_b2 (f_X8_beginSign σ l0 1) fun v1 s2 =>
  ms_b2 (f_X9_takeNumber s2 (ms_rf l0 0) 1 60) fun v3 s4 =>
  ms_nm (ms_si s4 v1 4 v3) fun s5 =>
  ms_b2 (f_X8_takeSide s5 l0 (ms_i s5 v1 4)) fun v6 s7 =>
  ms_nm (ms_si s7 v1 5 v6) fun s8 =>
  ms_b2 (f_X9_takeNumber s8 (ms_rf l0 0) 1 9) fun v9 s10 =>
  ms_nm (ms_si s10 v1 6 v9) fun s11 =>
  ms_b2 (f_X9_takeNumber s11 (ms_rf l0 0) 1 9) fun v12 s13 =>
  ms_nm (ms_si s13 v1 7 v12) fun s14 =>
  ms_b2 (f_X9_takeNumber s14 (ms_rf l0 0) 0 9) fun v15 s16 =>
  ms_nm (ms_si s16 v1 10 v15) fun s17 =>
  (f_X7_addPart s17 v1 (ms_i s17 (ms_rf l0 1) 4)).bind fun s18 =>
  (f_X8_endSign s18 l0).bind fun s19 =>
  some s19
def f_X8_findSign  (σ : MsSt) (l0 : Nat) : Option (Int32 × MsSt) :=
  (f_X9_isName σ (ms_rf l0 0)).bind fun v1 =>
  if v1 = 0 then
    (f_X9_fail σ (ms_rf l0 0) 1).bind fun s5 =>
    some ((-1), s5)
  else
    (f_X9_packedName σ (ms_rf l0 0)).bind fun v2 =>
    (f_X6_findName σ (ms_rf l0 1) v2).bind fun v3 =>
    if v3 = (-1) then
      (f_X9_fail σ (ms_rf l0 0) 4).bind fun s4 =>
      some (v3, s4)
    else
      some (v3, σ)
def f_X8_takeFirst  (σ : MsSt) (l0 : Nat) : Option (Int32 × MsSt) :=
  ms_b2 (f_X8_findSign σ l0) fun v1 s2 =>
  (f_X6_kindOf s2 (ms_rf l0 1) v1).bind fun v3 =>
  if v3 = 1 then
    (f_X9_fail s2 (ms_rf l0 0) 4).bind fun s8 =>
    (f_X9_advance s8 (ms_rf l0 0)).bind fun s9 =>
    some (v1, s9)
  else
    (f_X6_told s2 (ms_rf l0 1) v1).bind fun v4 =>
    if (ms_i s2 v4 3) < 6 then
      (f_X9_advance s2 (ms_rf l0 0)).bind fun s5 =>
      some (v1, s5)
    else
      (f_X9_fail s2 (ms_rf l0 0) 5).bind fun s6 =>
      (f_X9_advance s6 (ms_rf l0 0)).bind fun s7 =>
      some (v1, s7)
def f_X8_takeSecond  (σ : MsSt) (l0 : Nat) (l1 : Int32) : Option (Int32 × MsSt) :=
  ms_b2 (f_X8_findSign σ l0) fun v1 s2 =>
  (f_X6_kindOf s2 (ms_rf l0 1) v1).bind fun v3 =>
  if v3 = 1 then
    (f_X6_findPair s2 (ms_rf l0 1) l1 v1).bind fun v4 =>
    if v4 = (-1) then
      (f_X9_advance s2 (ms_rf l0 0)).bind fun s5 =>
      some (v1, s5)
    else
      (f_X9_fail s2 (ms_rf l0 0) 3).bind fun s6 =>
      (f_X9_advance s6 (ms_rf l0 0)).bind fun s7 =>
      some (v1, s7)
  else
    (f_X9_fail s2 (ms_rf l0 0) 4).bind fun s8 =>
    (f_X9_advance s8 (ms_rf l0 0)).bind fun s9 =>
    some (v1, s9)
def f_X8_readPair  (σ : MsSt) (l0 : Nat) : Option (MsSt) :=
  ms_b2 (f_X8_beginSign σ l0 2) fun v1 s2 =>
  ms_b2 (f_X8_takeFirst s2 l0) fun v3 s4 =>
  ms_nm (ms_si s4 v1 11 v3) fun s5 =>
  ms_b2 (f_X8_takeSecond s5 l0 (ms_i s5 v1 11)) fun v6 s7 =>
  ms_nm (ms_si s7 v1 12 v6) fun s8 =>
  (f_X6_told s8 (ms_rf l0 1) (ms_i s8 v1 11)).bind fun v9 =>
  (f_X5_takeOver s8 (ms_rf v1 0) (ms_rf v9 0)).bind fun s10 =>
  (f_X7_addPart s10 v1 (ms_i s10 v1 12)).bind fun s11 =>
  (f_X9_isWord s11 (ms_rf l0 0) 612).bind fun v12 =>
  if v12 = 0 then
    (f_X8_endSign s11 l0).bind fun s13 =>
    some s13
  else
    ms_nm (ms_si s11 v1 13 1) fun s14 =>
    (f_X9_advance s14 (ms_rf l0 0)).bind fun s15 =>
    (f_X8_endSign s15 l0).bind fun s16 =>
    some s16
def f_X8_readLine_81   (σ : MsSt) (l0 : Nat) : Option (MsSt) :=
  (f_X9_takeSymbol σ (ms_rf l0 0) 59).bind fun s3 =>
  ms_nm (ms_si s3 (ms_rf l0 1) 5 ((ms_i s3 (ms_rf l0 1) 5) + 1)) fun s4 =>
  some s4
def f_X8_readLine_24   : Nat → MsSt → Nat → Nat → Int32 → Option (MsSt)
  | 0, _, _, _, _ => none
  | n + 1, σ, l0, l1, l2 =>
    if 60 < l2 then
      f_X8_readLine_81 σ l0
    else
      if (ms_i σ (ms_rf l0 0) 5) = 1 then
        ms_b2 (f_X8_findSign σ l0) fun v5 s6 =>
        if (ms_i s6 l1 1) < 60 then
          (f_X5_add s6 l1 v5).bind fun s7 =>
          (f_X9_advance s7 (ms_rf l0 0)).bind fun s8 =>
          (f_X8_readLine_24 n) s8 l0 l1 (l2 + 1)
        else
          (f_X9_fail s6 (ms_rf l0 0) 5).bind fun s9 =>
          (f_X5_add s9 l1 v5).bind fun s10 =>
          (f_X9_advance s10 (ms_rf l0 0)).bind fun s11 =>
          (f_X8_readLine_24 n) s11 l0 l1 (l2 + 1)
      else
        f_X8_readLine_81 σ l0
def f_X8_readLine  (σ : MsSt) (l0 : Nat) : Option (MsSt) :=
  (f_X9_advance σ (ms_rf l0 0)).bind fun s1 =>
  (f_X6_lineAt s1 (ms_rf l0 1) (ms_i s1 (ms_rf l0 1) 5)).bind fun v2 =>
  f_X8_readLine_24 ms_fuel s1 l0 v2 0
def f_X8_readText_162   (σ : MsSt) (l0 : Nat) : Option (Int32 × MsSt) :=
  (f_X9_isWord σ (ms_rf l0 0) 614).bind fun v6 =>
  if v6 = 0 then
    (f_X9_takeEnd σ (ms_rf l0 0)).bind fun s7 =>
    some ((ms_i s7 (ms_rf l0 0) 7), s7)
  else
    (f_X9_advance σ (ms_rf l0 0)).bind fun s8 =>
    ms_b2 (f_X9_takeNumber s8 (ms_rf l0 0) 0 ((ms_i s8 (ms_rf l0 1) 5) - 1)) fun v9 s10 =>
    ms_nm (ms_si s10 (ms_rf l0 1) 6 v9) fun s11 =>
    (f_X9_takeSymbol s11 (ms_rf l0 0) 59).bind fun s12 =>
    (f_X9_takeEnd s12 (ms_rf l0 0)).bind fun s13 =>
    some ((ms_i s13 (ms_rf l0 0) 7), s13)
def f_X8_readText_142   (σ : MsSt) (l0 : Nat) : Option (Int32 × MsSt) :=
  (f_X9_isWord σ (ms_rf l0 0) 613).bind fun v5 =>
  if v5 = 0 then
    f_X8_readText_162 σ l0
  else
    (f_X9_fail σ (ms_rf l0 0) 5).bind fun s14 =>
    f_X8_readText_162 s14 l0
def f_X8_readText_115   : Nat → MsSt → Nat → Int32 → Option (Int32 × MsSt)
  | 0, _, _, _ => none
  | n + 1, σ, l0, l2 =>
    if l2 < 4 then
      (f_X9_isWord σ (ms_rf l0 0) 613).bind fun v15 =>
      if v15 = 0 then
        f_X8_readText_142 σ l0
      else
        (f_X8_readLine σ l0).bind fun s16 =>
        (f_X8_readText_115 n) s16 l0 (l2 + 1)
    else
      f_X8_readText_142 σ l0
def f_X8_readText_93   (σ : MsSt) (l0 : Nat) : Option (Int32 × MsSt) :=
  (f_X9_isWord σ (ms_rf l0 0) 613).bind fun v4 =>
  if v4 = 0 then
    (f_X9_fail σ (ms_rf l0 0) 1).bind fun s17 =>
    f_X8_readText_115 ms_fuel s17 l0 0
  else
    f_X8_readText_115 ms_fuel σ l0 0
def f_X8_readText_78   (σ : MsSt) (l0 : Nat) : Option (Int32 × MsSt) :=
  (f_X8_isSignAhead σ l0).bind fun v3 =>
  if v3 = 0 then
    f_X8_readText_93 σ l0
  else
    (f_X9_fail σ (ms_rf l0 0) 5).bind fun s18 =>
    f_X8_readText_93 s18 l0
def f_X8_readText_17   : Nat → MsSt → Nat → Int32 → Option (Int32 × MsSt)
  | 0, _, _, _ => none
  | n + 1, σ, l0, l2 =>
    if l2 < 40 then
      (f_X8_isSignAhead σ l0).bind fun v19 =>
      if v19 = 0 then
        f_X8_readText_78 σ l0
      else
        (f_X9_isWord σ (ms_rf l0 0) 601).bind fun v20 =>
        if v20 = 0 then
          (f_X9_isWord σ (ms_rf l0 0) 602).bind fun v21 =>
          if v21 = 0 then
            (f_X8_readPair σ l0).bind fun s22 =>
            (f_X8_readText_17 n) s22 l0 (l2 + 1)
          else
            (f_X8_readMark σ l0).bind fun s23 =>
            (f_X8_readText_17 n) s23 l0 (l2 + 1)
        else
          (f_X8_readBase σ l0).bind fun s24 =>
          (f_X8_readText_17 n) s24 l0 (l2 + 1)
    else
      f_X8_readText_78 σ l0
def f_X8_readText  (σ : MsSt) (l0 : Nat) (l1 : Int32) : Option (Int32 × MsSt) :=
  (f_X6_empty σ (ms_rf l0 1)).bind fun s1 =>
  (f_X9_begin s1 (ms_rf l0 0) l1).bind fun s2 =>
  f_X8_readText_17 ms_fuel s2 l0 0
def f_X9_hasRoomFor  (σ : MsSt) (l0 : Nat) (l1 : Int32) : Option (Int32) :=
  if (Int32.ofNat (ms_ln (ms_rf l0 0))) < ((ms_i σ l0 1) + l1) then
    some 0
  else
    some 1
def f_X9_append_3   : Nat → MsSt → Nat → Int32 → Int32 → Option (MsSt)
  | 0, _, _, _, _ => none
  | n + 1, σ, l0, l1, l2 =>
    if l2 < 0 then
      some σ
    else
      if (ms_i σ l0 1) < 0 then
        (f_X9_append_3 n) σ l0 l1 (l2 + (-8))
      else
        if (ms_i σ l0 1) < (Int32.ofNat (ms_ln (ms_rf l0 0))) then
          (ms_ast σ (ms_rf l0 0) (ms_i σ l0 1) ((l1 >>> (l2 &&& 31)).toInt8.toInt32).toInt8.toInt32).bind fun s1 =>
          ms_nm (ms_si s1 l0 1 ((ms_i s1 l0 1) + 1)) fun s2 =>
          (f_X9_append_3 n) s2 l0 l1 (l2 + (-8))
        else
          (f_X9_append_3 n) σ l0 l1 (l2 + (-8))
def f_X9_append  (σ : MsSt) (l0 : Nat) (l1 : Int32) : Option (MsSt) :=
  f_X9_append_3 ms_fuel σ l0 l1 24
def f_X10_feed  (σ : MsSt) (l0 : Nat) (l1 : Int32) (l2 : Int32) (l3 : Int32) (l4 : Int32) (l5 : Int32) : Option (Int32 × MsSt) :=
  (f_X9_hasRoomFor σ (ms_rf l0 0) 20).bind fun v1 =>
  if v1 = 0 then
    some ((-1), σ)
  else
    (f_X9_append σ (ms_rf l0 0) l1).bind fun s2 =>
    (f_X9_append s2 (ms_rf l0 0) l2).bind fun s3 =>
    (f_X9_append s3 (ms_rf l0 0) l3).bind fun s4 =>
    (f_X9_append s4 (ms_rf l0 0) l4).bind fun s5 =>
    (f_X9_append s5 (ms_rf l0 0) l5).bind fun s6 =>
    some ((ms_i s6 (ms_rf l0 0) 1), s6)
def f_X10_needLength  (σ : MsSt) (l0 : Nat) (l1 : Int32) (l2 : Int32) : Option (Option Nat) :=
  if l1 < 0 then
    some (some 1)
  else
    if l2 < l1 then
      some (some 1)
    else
      if (ms_i σ (ms_rf l0 0) 1) < l1 then
        some (some 1)
      else
        some none
def f_X10_load  (σ : MsSt) (l0 : Nat) (l1 : Int32) : Option ((Int32 ⊕ Nat) × MsSt) :=
  ms_bt (f_X10_needLength σ l0 l1 900)
  (ms_b2 (f_X8_readText σ (ms_rf l0 2) l1) fun v2 s3 =>
   ms_nm (ms_si s3 (ms_rf l0 0) 1 0) fun s4 =>
   ms_nm (ms_si s4 l0 13 (ms_i s4 (ms_rf l0 0) 8)) fun s5 =>
   if v2 = 0 then
     (f_X6_takeOver s5 (ms_rf l0 1) (ms_rf (ms_rf l0 2) 1)).bind fun s6 =>
     (f_X2_forget s6 (ms_rf l0 4)).bind fun s7 =>
     ms_nm (ms_si s7 l0 12 0) fun s8 =>
     some (.inl (ms_i s8 (ms_rf l0 1) 4), s8)
   else
     some (.inl ((-10) - v2), s5))
  (fun e1 => some (.inr e1, σ))
def f_X10_errorPosition  (σ : MsSt) (l0 : Nat) : Option (Int32) :=
  some (ms_i σ l0 13)
def f_X10_needIn  (σ : MsSt) (l0 : Int32) (l1 : Int32) (l2 : Int32) : Option (Option Nat) :=
  if l0 < l1 then
    some (some 0)
  else
    if l2 < l0 then
      some (some 0)
    else
      some none
def f_X10_size  (σ : MsSt) (l0 : Nat) (l1 : Int32) : Option (Int32 ⊕ Nat) :=
  ms_bt (f_X10_needIn σ l1 0 6)
  (if l1 = 0 then
     some (.inl (ms_i σ (ms_rf l0 1) 4))
   else
   if l1 = 1 then
     (f_X6_countKind σ (ms_rf l0 1) 0).bind fun v2 =>
     some (.inl v2)
   else
   if l1 = 2 then
     (f_X6_countKind σ (ms_rf l0 1) 1).bind fun v3 =>
     some (.inl v3)
   else
   if l1 = 3 then
     (f_X6_countKind σ (ms_rf l0 1) 2).bind fun v4 =>
     some (.inl v4)
   else
   if l1 = 4 then
     (f_X6_countSpare σ (ms_rf l0 1)).bind fun v5 =>
     some (.inl v5)
   else
   if l1 = 5 then
     some (.inl (ms_i σ (ms_rf l0 1) 5))
   else
   some (.inl (ms_i σ (ms_rf l0 1) 6)))
  (fun e1 => some (.inr e1))
def f_X10_needSign  (σ : MsSt) (l0 : Nat) (l1 : Int32) : Option (Option Nat) :=
  ms_bt (f_X10_needIn σ l1 0 ((ms_i σ (ms_rf l0 1) 4) - 1))
  (some none)
  (fun e1 => some (some e1))
def f_X10_sign  (σ : MsSt) (l0 : Nat) (l1 : Int32) (l2 : Int32) : Option (Int32 ⊕ Nat) :=
  ms_bt (f_X10_needSign σ l0 l1)
  (ms_bt (f_X10_needIn σ l2 0 6)
   ((f_X6_told σ (ms_rf l0 1) l1).bind fun v3 =>
    if (ms_i σ v3 1) = 2 then
      if l2 = 6 then
        (f_X6_countLinesWith σ (ms_rf l0 1) l1).bind fun v6 =>
        some (.inl v6)
      else
        (f_X7_number σ v3 l2).bind fun v5 =>
        some (.inl v5)
    else
      (f_X7_number σ v3 l2).bind fun v4 =>
      some (.inl v4))
   (fun e2 => some (.inr e2)))
  (fun e1 => some (.inr e1))
def f_X10_letter  (σ : MsSt) (l0 : Nat) (l1 : Int32) (l2 : Int32) : Option (Int32 ⊕ Nat) :=
  ms_bt (f_X10_needSign σ l0 l1)
  (if l2 < 0 then
     some (.inr 0)
   else
     (f_X6_told σ (ms_rf l0 1) l1).bind fun v2 =>
     (f_X7_letterAt σ v2 l2).bind fun v3 =>
     some (.inl v3))
  (fun e1 => some (.inr e1))
def f_X10_expanded  (σ : MsSt) (l0 : Nat) (l1 : Int32) (l2 : Int32) : Option (Int32 ⊕ Nat) :=
  ms_bt (f_X10_needSign σ l0 l1)
  ((f_X6_told σ (ms_rf l0 1) l1).bind fun v2 =>
   ms_bt (f_X10_needIn σ l2 0 ((ms_i σ v2 3) - 1))
   ((f_X7_part σ v2 l2).bind fun v4 =>
    some (.inl v4))
   (fun e3 => some (.inr e3)))
  (fun e1 => some (.inr e1))
def f_X10_pairOf  (σ : MsSt) (l0 : Nat) (l1 : Int32) (l2 : Int32) : Option (Int32 ⊕ Nat) :=
  ms_bt (f_X10_needSign σ l0 l1)
  (ms_bt (f_X10_needSign σ l0 l2)
   ((f_X6_findPair σ (ms_rf l0 1) l1 l2).bind fun v3 =>
    some (.inl v3))
   (fun e2 => some (.inr e2)))
  (fun e1 => some (.inr e1))
def f_X10_used  (σ : MsSt) (l0 : Nat) (l1 : Int32) : Option (Int32 ⊕ Nat) :=
  ms_bt (f_X10_needSign σ l0 l1)
  ((f_X6_countExpandedWith σ (ms_rf l0 1) l1).bind fun v2 =>
   some (.inl v2))
  (fun e1 => some (.inr e1))
def f_X10_recomposed  (σ : MsSt) (l0 : Nat) (l1 : Int32) : Option ((Int32 ⊕ Nat) × MsSt) :=
  ms_bt (f_X10_needSign σ l0 l1)
  ((f_X5_clear σ (ms_rf l0 10)).bind fun s2 =>
   (f_X5_add s2 (ms_rf l0 10) l1).bind fun s3 =>
   (f_X1_derive s3 (ms_rf l0 6) (ms_rf l0 10) (-1)).bind fun s4 =>
   (f_X5_get s4 (ms_rf (ms_rf l0 6) 3) 0).bind fun v5 =>
   some (.inl v5, s4))
  (fun e1 => some (.inr e1, σ))
def f_X10_needLine  (σ : MsSt) (l0 : Nat) (l1 : Int32) : Option (Option Nat) :=
  ms_bt (f_X10_needIn σ l1 0 ((ms_i σ (ms_rf l0 1) 5) - 1))
  (some none)
  (fun e1 => some (some e1))
def f_X10_greatestCrown_4   : Nat → MsSt → Nat → Int32 → Int32 → Option (Int32 × MsSt)
  | 0, _, _, _, _ => none
  | n + 1, σ, l0, l1, l2 =>
    if l2 < (ms_i σ (ms_rf (ms_rf l0 6) 4) 1) then
      (f_X0_lay σ (ms_rf l0 8) (ms_rf l0 6) l2).bind fun s1 =>
      (f_X10_greatestCrown_4 n) s1 l0 (if l1 < (ms_i s1 (ms_rf l0 8) 10) then (ms_i s1 (ms_rf l0 8) 10) else l1) (l2 + 1)
    else
      some (l1, σ)
def f_X10_greatestCrown  (σ : MsSt) (l0 : Nat) : Option (Int32 × MsSt) :=
  f_X10_greatestCrown_4 ms_fuel σ l0 0 0
def f_X10_leastFoot_4   : Nat → MsSt → Nat → Int32 → Int32 → Option (Int32 × MsSt)
  | 0, _, _, _, _ => none
  | n + 1, σ, l0, l1, l2 =>
    if l2 < (ms_i σ (ms_rf (ms_rf l0 6) 4) 1) then
      (f_X0_lay σ (ms_rf l0 8) (ms_rf l0 6) l2).bind fun s1 =>
      (f_X10_leastFoot_4 n) s1 l0 (if (ms_i s1 (ms_rf l0 8) 11) < l1 then (ms_i s1 (ms_rf l0 8) 11) else l1) (l2 + 1)
    else
      some (l1, σ)
def f_X10_leastFoot  (σ : MsSt) (l0 : Nat) : Option (Int32 × MsSt) :=
  f_X10_leastFoot_4 ms_fuel σ l0 0 0
def f_X10_clashesWithNext  (σ : MsSt) (l0 : Nat) (l1 : Int32) : Option (Int32 × MsSt) :=
  (f_X0_lay σ (ms_rf l0 8) (ms_rf l0 6) l1).bind fun s1 =>
  (f_X0_lay s1 (ms_rf l0 9) (ms_rf l0 6) (l1 + 1)).bind fun s2 =>
  (f_X5_get s2 (ms_rf (ms_rf l0 6) 5) l1).bind fun v3 =>
  (f_X6_widthOf s2 (ms_rf l0 1) v3).bind fun v4 =>
  (f_X0_overlaps s2 (ms_rf l0 8) (ms_rf l0 9) v4).bind fun v5 =>
  (ms_bz v5).bind fun v6 =>
  some (v6, s2)
def f_X10_countClashes_4   : Nat → MsSt → Nat → Int32 → Int32 → Option (Int32 × MsSt)
  | 0, _, _, _, _ => none
  | n + 1, σ, l0, l1, l2 =>
    if (l2 + 1) < (ms_i σ (ms_rf (ms_rf l0 6) 4) 1) then
      ms_b2 (f_X10_clashesWithNext σ l0 l2) fun v1 s2 =>
      if v1 = 0 then
        (f_X10_countClashes_4 n) s2 l0 l1 (l2 + 1)
      else
        (f_X10_countClashes_4 n) s2 l0 (l1 + 1) (l2 + 1)
    else
      some (l1, σ)
def f_X10_countClashes  (σ : MsSt) (l0 : Nat) : Option (Int32 × MsSt) :=
  f_X10_countClashes_4 ms_fuel σ l0 0 0
def f_X10_line  (σ : MsSt) (l0 : Nat) (l1 : Int32) (l2 : Int32) : Option ((Int32 ⊕ Nat) × MsSt) :=
  ms_bt (f_X10_needLine σ l0 l1)
  (ms_bt (f_X10_needIn σ l2 0 8)
   ((f_X6_lineAt σ (ms_rf l0 1) l1).bind fun v3 =>
    (f_X1_derive σ (ms_rf l0 6) v3 (-1)).bind fun s4 =>
    if l2 = 0 then
      some (.inl (ms_i s4 v3 1), s4)
    else
    if l2 = 1 then
      some (.inl (ms_i s4 (ms_rf (ms_rf l0 6) 2) 1), s4)
    else
    if l2 = 2 then
      some (.inl (ms_i s4 (ms_rf (ms_rf l0 6) 3) 1), s4)
    else
    if l2 = 3 then
      (f_X1_countSwaps s4 (ms_rf l0 6) (-1) 0).bind fun v7 =>
      some (.inl v7, s4)
    else
    if l2 = 4 then
      some (.inl (ms_i s4 (ms_rf (ms_rf l0 6) 4) 1), s4)
    else
    if l2 = 5 then
      (f_X1_penOf s4 (ms_rf l0 6) (ms_i s4 (ms_rf (ms_rf l0 6) 4) 1)).bind fun v8 =>
      some (.inl v8, s4)
    else
    if l2 = 6 then
      ms_b2 (f_X10_greatestCrown s4 l0) fun v9 s10 =>
      some (.inl v9, s10)
    else
    if l2 = 7 then
      ms_b2 (f_X10_leastFoot s4 l0) fun v11 s12 =>
      some (.inl v11, s12)
    else
    ms_b2 (f_X10_countClashes s4 l0) fun v5 s6 =>
    some (.inl v5, s6))
   (fun e2 => some (.inr e2, σ)))
  (fun e1 => some (.inr e1, σ))
def f_X10_rowOf  (σ : MsSt) (l0 : Nat) (l1 : Int32) (l2 : Int32) : Option (Nat × MsSt) :=
  (f_X6_lineAt σ (ms_rf l0 1) l1).bind fun v1 =>
  if l2 = 0 then
    some (v1, σ)
  else
    (f_X1_derive σ (ms_rf l0 6) v1 (-1)).bind fun s2 =>
    if l2 = 1 then
      some ((ms_rf (ms_rf l0 6) 2), s2)
    else
      some ((ms_rf (ms_rf l0 6) 3), s2)
def f_X10_at  (σ : MsSt) (l0 : Nat) (l1 : Int32) (l2 : Int32) (l3 : Int32) : Option ((Int32 ⊕ Nat) × MsSt) :=
  ms_bt (f_X10_needLine σ l0 l1)
  (ms_bt (f_X10_needIn σ l2 0 2)
   (ms_b2 (f_X10_rowOf σ l0 l1 l2) fun v3 s4 =>
    ms_bt (f_X10_needIn s4 l3 0 ((ms_i s4 v3 1) - 1))
    ((f_X5_get s4 v3 l3).bind fun v6 =>
     some (.inl v6, s4))
    (fun e5 => some (.inr e5, s4)))
   (fun e2 => some (.inr e2, σ)))
  (fun e1 => some (.inr e1, σ))
def f_X10_unlike  (σ : MsSt) (l0 : Nat) (l1 : Int32) (l2 : Int32) : Option ((Int32 ⊕ Nat) × MsSt) :=
  ms_bt (f_X10_needLine σ l0 l1)
  (ms_bt (f_X10_needIn σ l2 1 2)
   ((f_X6_lineAt σ (ms_rf l0 1) l1).bind fun v3 =>
    ms_b2 (f_X10_rowOf σ l0 l1 l2) fun v4 s5 =>
    (f_X5_firstUnlike s5 v3 v4).bind fun v6 =>
    some (.inl v6, s5))
   (fun e2 => some (.inr e2, σ)))
  (fun e1 => some (.inr e1, σ))
def f_X10_clusterOf  (σ : MsSt) (l0 : Nat) (l1 : Int32) (l2 : Int32) : Option (Int32 ⊕ Nat) :=
  ms_bt (f_X10_needLine σ l0 l1)
  ((f_X6_lineAt σ (ms_rf l0 1) l1).bind fun v2 =>
   ms_bt (f_X10_needIn σ l2 0 ((ms_i σ v2 1) - 1))
   ((f_X6_clusterAt σ (ms_rf l0 1) v2 l2).bind fun v4 =>
    some (.inl v4))
   (fun e3 => some (.inr e3)))
  (fun e1 => some (.inr e1))
def f_X10_needCluster  (σ : MsSt) (l0 : Nat) (l1 : Int32) (l2 : Int32) : Option (Option Nat × MsSt) :=
  ms_bt (f_X10_needLine σ l0 l1)
  ((f_X6_lineAt σ (ms_rf l0 1) l1).bind fun v2 =>
   (f_X1_derive σ (ms_rf l0 6) v2 (-1)).bind fun s3 =>
   ms_bt (f_X10_needIn s3 l2 0 ((ms_i s3 (ms_rf (ms_rf l0 6) 4) 1) - 1))
   (some (none, s3))
   (fun e4 => some (some e4, s3)))
  (fun e1 => some (some e1, σ))
def f_X10_cluster  (σ : MsSt) (l0 : Nat) (l1 : Int32) (l2 : Int32) (l3 : Int32) : Option ((Int32 ⊕ Nat) × MsSt) :=
  ms_bu (f_X10_needCluster σ l0 l1 l2)
  (fun s2 =>
    ms_bt (f_X10_needIn s2 l3 0 8)
    ((f_X0_lay s2 (ms_rf l0 8) (ms_rf l0 6) l2).bind fun s4 =>
     if l3 = 0 then
       (f_X5_get s4 (ms_rf (ms_rf l0 6) 5) l2).bind fun v6 =>
       some (.inl v6, s4)
     else
     if l3 = 1 then
       (f_X1_marksIn s4 (ms_rf l0 6) l2).bind fun v7 =>
       some (.inl v7, s4)
     else
     if l3 = 2 then
       (f_X5_get s4 (ms_rf (ms_rf l0 6) 4) l2).bind fun v8 =>
       some (.inl v8, s4)
     else
     if l3 = 3 then
       (f_X1_penOf s4 (ms_rf l0 6) l2).bind fun v9 =>
       some (.inl v9, s4)
     else
     if l3 = 4 then
       some (.inl (ms_i s4 (ms_rf l0 8) 8), s4)
     else
     if l3 = 5 then
       some (.inl (ms_i s4 (ms_rf l0 8) 9), s4)
     else
     if l3 = 6 then
       some (.inl (ms_i s4 (ms_rf l0 8) 10), s4)
     else
     if l3 = 7 then
       some (.inl (ms_i s4 (ms_rf l0 8) 11), s4)
     else
     (f_X5_get s4 (ms_rf (ms_rf l0 6) 6) l2).bind fun v5 =>
     some (.inl v5, s4))
    (fun e3 => some (.inr e3, s2)))
  (fun e1 s2 => some (.inr e1, s2))
def f_X10_box  (σ : MsSt) (l0 : Nat) (l1 : Int32) (l2 : Int32) (l3 : Int32) (l4 : Int32) : Option ((Int32 ⊕ Nat) × MsSt) :=
  ms_bu (f_X10_needCluster σ l0 l1 l2)
  (fun s2 =>
    (f_X0_lay s2 (ms_rf l0 8) (ms_rf l0 6) l2).bind fun s3 =>
    ms_bt (f_X10_needIn s3 l3 0 ((ms_i s3 (ms_rf (ms_rf l0 8) 1) 1) - 1))
    (ms_bt (f_X10_needIn s3 l4 0 4)
     (if l4 = 0 then
        (f_X5_get s3 (ms_rf (ms_rf l0 8) 1) l3).bind fun v7 =>
        some (.inl v7, s3)
      else
      if l4 = 1 then
        (f_X5_get s3 (ms_rf (ms_rf l0 8) 2) l3).bind fun v8 =>
        some (.inl v8, s3)
      else
      if l4 = 2 then
        (f_X5_get s3 (ms_rf (ms_rf l0 8) 3) l3).bind fun v9 =>
        some (.inl v9, s3)
      else
      if l4 = 3 then
        (f_X5_get s3 (ms_rf (ms_rf l0 8) 4) l3).bind fun v10 =>
        some (.inl v10, s3)
      else
      (f_X5_get s3 (ms_rf (ms_rf l0 8) 5) l3).bind fun v6 =>
      some (.inl v6, s3))
     (fun e5 => some (.inr e5, s3)))
    (fun e4 => some (.inr e4, s3)))
  (fun e1 s2 => some (.inr e1, s2))
def f_X10_spellings  (σ : MsSt) (l0 : Nat) (l1 : Int32) (l2 : Int32) : Option ((Int64 ⊕ Nat) × MsSt) :=
  ms_bu (f_X10_needCluster σ l0 l1 l2)
  (fun s2 =>
    (f_X1_marksIn s2 (ms_rf l0 6) l2).bind fun v3 =>
    if 18 < v3 then
      some (.inl (-2), s2)
    else
      (f_X1_countOrders s2 (ms_rf l0 6) l2).bind fun v4 =>
      some (.inl v4, s2))
  (fun e1 s2 => some (.inr e1, s2))
def f_X10_clashes  (σ : MsSt) (l0 : Nat) (l1 : Int32) (l2 : Int32) : Option ((Int32 ⊕ Nat) × MsSt) :=
  ms_bu (f_X10_needCluster σ l0 l1 l2)
  (fun s2 =>
    ms_bt (f_X10_needIn s2 l2 0 ((ms_i s2 (ms_rf (ms_rf l0 6) 4) 1) - 2))
    (ms_b2 (f_X10_clashesWithNext s2 l0 l2) fun v4 s5 =>
     (ms_bz v4).bind fun v6 =>
     some (.inl v6, s5))
    (fun e3 => some (.inr e3, s2)))
  (fun e1 s2 => some (.inr e1, s2))
def f_X10_fullest_28   : Nat → MsSt → Nat → Int32 → Int32 → Int32 → Option ((Int32 ⊕ Nat) × MsSt)
  | 0, _, _, _, _, _ => none
  | n + 1, σ, l0, l2, l3, l4 =>
    if l4 < (ms_i σ (ms_rf (ms_rf l0 6) 4) 1) then
      (f_X1_marksIn σ (ms_rf l0 6) l4).bind fun v4 =>
      if l3 < v4 then
        (f_X1_marksIn σ (ms_rf l0 6) l4).bind fun v5 =>
        (f_X10_fullest_28 n) σ l0 l4 v5 (l4 + 1)
      else
        (f_X10_fullest_28 n) σ l0 l2 l3 (l4 + 1)
    else
      some (.inl l2, σ)
def f_X10_fullest  (σ : MsSt) (l0 : Nat) (l1 : Int32) : Option ((Int32 ⊕ Nat) × MsSt) :=
  ms_bt (f_X10_needLine σ l0 l1)
  ((f_X6_lineAt σ (ms_rf l0 1) l1).bind fun v2 =>
   (f_X1_derive σ (ms_rf l0 6) v2 (-1)).bind fun s3 =>
   f_X10_fullest_28 ms_fuel s3 l0 (-1) (-1) 0)
  (fun e1 => some (.inr e1, σ))
def f_X10_needBoth  (σ : MsSt) (l0 : Nat) (l1 : Int32) (l2 : Int32) : Option (Option Nat × MsSt) :=
  ms_bt (f_X10_needLine σ l0 l1)
  (ms_bt (f_X10_needLine σ l0 l2)
   ((f_X6_lineAt σ (ms_rf l0 1) l1).bind fun v3 =>
    (f_X1_derive σ (ms_rf l0 6) v3 (-1)).bind fun s4 =>
    (f_X6_lineAt s4 (ms_rf l0 1) l2).bind fun v5 =>
    (f_X1_derive s4 (ms_rf l0 7) v5 (-1)).bind fun s6 =>
    some (none, s6))
   (fun e2 => some (some e2, σ)))
  (fun e1 => some (some e1, σ))
def f_X10_compare  (σ : MsSt) (l0 : Nat) (l1 : Int32) (l2 : Int32) : Option ((Int32 ⊕ Nat) × MsSt) :=
  ms_bu (f_X10_needBoth σ l0 l1 l2)
  (fun s2 =>
    (f_X5_firstUnlike s2 (ms_rf (ms_rf l0 6) 2) (ms_rf (ms_rf l0 7) 2)).bind fun v3 =>
    if v3 = (-1) then
      some (.inl 0, s2)
    else
      (f_X5_get s2 (ms_rf (ms_rf l0 6) 2) v3).bind fun v4 =>
      (f_X5_get s2 (ms_rf (ms_rf l0 7) 2) v3).bind fun v5 =>
      if v4 < v5 then
        some (.inl (-1), s2)
      else
        some (.inl 1, s2))
  (fun e1 s2 => some (.inr e1, s2))
def f_X10_areBare  (σ : MsSt) (l0 : Nat) (l1 : Int32) (l2 : Int32) : Option ((Int32 ⊕ Nat) × MsSt) :=
  ms_bu (f_X10_needBoth σ l0 l1 l2)
  (fun s2 =>
    if (ms_i s2 (ms_rf (ms_rf l0 6) 4) 1) = (ms_i s2 (ms_rf (ms_rf l0 7) 4) 1) then
      (f_X1_isFoundAt s2 (ms_rf l0 6) (ms_rf l0 7) 1 0).bind fun v3 =>
      if v3 = 0 then
        some (.inl 0, s2)
      else
        some (.inl 1, s2)
    else
      some (.inl 0, s2))
  (fun e1 s2 => some (.inr e1, s2))
def f_X10_matches_28   : Nat → MsSt → Nat → Int32 → Int32 → Int32 → Option ((Int32 ⊕ Nat) × MsSt)
  | 0, _, _, _, _, _ => none
  | n + 1, σ, l0, l3, l4, l5 =>
    if l5 < (ms_i σ (ms_rf (ms_rf l0 6) 4) 1) then
      (f_X1_isFoundAt σ (ms_rf l0 6) (ms_rf l0 7) l3 l5).bind fun v4 =>
      if v4 = 0 then
        (f_X10_matches_28 n) σ l0 l3 l4 (l5 + 1)
      else
        (f_X10_matches_28 n) σ l0 l3 (l4 + 1) (l5 + 1)
    else
      some (.inl l4, σ)
def f_X10_matches  (σ : MsSt) (l0 : Nat) (l1 : Int32) (l2 : Int32) (l3 : Int32) : Option ((Int32 ⊕ Nat) × MsSt) :=
  ms_bu (f_X10_needBoth σ l0 l1 l2)
  (fun s2 =>
    ms_bt (f_X10_needIn s2 (ms_i s2 (ms_rf (ms_rf l0 7) 4) 1) 1 60)
    (f_X10_matches_28 ms_fuel s2 l0 l3 0 0)
    (fun e3 => some (.inr e3, s2)))
  (fun e1 s2 => some (.inr e1, s2))
def f_X10_match_28   : Nat → MsSt → Nat → Int32 → Int32 → Int32 → Int32 → Option ((Int32 ⊕ Nat) × MsSt)
  | 0, _, _, _, _, _, _ => none
  | n + 1, σ, l0, l3, l4, l5, l6 =>
    if l6 < (ms_i σ (ms_rf (ms_rf l0 6) 4) 1) then
      (f_X1_isFoundAt σ (ms_rf l0 6) (ms_rf l0 7) l3 l6).bind fun v4 =>
      if v4 = 0 then
        (f_X10_match_28 n) σ l0 l3 l4 l5 (l6 + 1)
      else
        if l5 = l4 then
          some (.inl l6, σ)
        else
          (f_X10_match_28 n) σ l0 l3 l4 (l5 + 1) (l6 + 1)
    else
      some (.inr 0, σ)
def f_X10_match  (σ : MsSt) (l0 : Nat) (l1 : Int32) (l2 : Int32) (l3 : Int32) (l4 : Int32) : Option ((Int32 ⊕ Nat) × MsSt) :=
  ms_bu (f_X10_needBoth σ l0 l1 l2)
  (fun s2 =>
    ms_bt (f_X10_needIn s2 (ms_i s2 (ms_rf (ms_rf l0 7) 4) 1) 1 60)
    (f_X10_match_28 ms_fuel s2 l0 l3 l4 0 0)
    (fun e3 => some (.inr e3, s2)))
  (fun e1 s2 => some (.inr e1, s2))
def f_X10_saved  (σ : MsSt) (l0 : Nat) (l1 : Int32) (l2 : Int32) : Option ((Int32 ⊕ Nat) × MsSt) :=
  ms_bt (f_X10_needLine σ l0 l1)
  (ms_bt (f_X10_needSign σ l0 l2)
   ((f_X6_kindOf σ (ms_rf l0 1) l2).bind fun v3 =>
    ms_bt (f_X10_needIn σ v3 2 2)
    ((f_X6_lineAt σ (ms_rf l0 1) l1).bind fun v5 =>
     (f_X1_derive σ (ms_rf l0 6) v5 (-1)).bind fun s6 =>
     (f_X1_derive s6 (ms_rf l0 7) v5 l2).bind fun s7 =>
     some (.inl ((ms_i s7 (ms_rf (ms_rf l0 6) 3) 1) - (ms_i s7 (ms_rf (ms_rf l0 7) 3) 1)), s7))
    (fun e4 => some (.inr e4, σ)))
   (fun e2 => some (.inr e2, σ)))
  (fun e1 => some (.inr e1, σ))
def f_X10_bestClass_47   : Nat → MsSt → Nat → Int32 → Int32 → Int32 → Int32 → Option ((Int32 ⊕ Nat) × MsSt)
  | 0, _, _, _, _, _, _ => none
  | n + 1, σ, l0, l2, l3, l4, l5 =>
    if 60 < l5 then
      some (.inl l3, σ)
    else
      (f_X6_mayHaveClass σ (ms_rf l0 1) l2 l5).bind fun v7 =>
      if v7 = 0 then
        (f_X10_bestClass_47 n) σ l0 l2 l3 l4 (l5 + 1)
      else
        (f_X1_countSwaps σ (ms_rf l0 6) l2 l5).bind fun v8 =>
        if l3 = (-1) then
          (f_X10_bestClass_47 n) σ l0 l2 l5 v8 (l5 + 1)
        else
          if v8 < l4 then
            (f_X10_bestClass_47 n) σ l0 l2 l5 v8 (l5 + 1)
          else
            (f_X10_bestClass_47 n) σ l0 l2 l3 l4 (l5 + 1)
def f_X10_bestClass  (σ : MsSt) (l0 : Nat) (l1 : Int32) (l2 : Int32) : Option ((Int32 ⊕ Nat) × MsSt) :=
  ms_bt (f_X10_needLine σ l0 l1)
  (ms_bt (f_X10_needSign σ l0 l2)
   ((f_X6_kindOf σ (ms_rf l0 1) l2).bind fun v3 =>
    ms_bt (f_X10_needIn σ v3 1 1)
    ((f_X6_lineAt σ (ms_rf l0 1) l1).bind fun v5 =>
     (f_X1_derive σ (ms_rf l0 6) v5 (-1)).bind fun s6 =>
     f_X10_bestClass_47 ms_fuel s6 l0 l2 (-1) 0 1)
    (fun e4 => some (.inr e4, σ)))
   (fun e2 => some (.inr e2, σ)))
  (fun e1 => some (.inr e1, σ))
def f_X10_meanMarks_37   : Nat → MsSt → Nat → Int32 → Int32 → Int32 → Option ((UInt64 ⊕ Nat) × MsSt)
  | 0, _, _, _, _, _ => none
  | n + 1, σ, l0, l2, l3, l4 =>
    if l4 < l2 then
      (f_X1_marksIn σ (ms_rf l0 6) l4).bind fun v5 =>
      (f_X10_meanMarks_37 n) σ l0 l2 (l3 + v5) (l4 + 1)
    else
      if l2 = 0 then
        some (.inl 0, σ)
      else
        (ms_ddiv (FP.i2d l3) (FP.i2d l2)).bind fun v4 =>
        some (.inl v4, σ)
def f_X10_meanMarks  (σ : MsSt) (l0 : Nat) (l1 : Int32) : Option ((UInt64 ⊕ Nat) × MsSt) :=
  ms_bt (f_X10_needLine σ l0 l1)
  ((f_X6_lineAt σ (ms_rf l0 1) l1).bind fun v2 =>
   (f_X1_derive σ (ms_rf l0 6) v2 (-1)).bind fun s3 =>
   f_X10_meanMarks_37 ms_fuel s3 l0 (ms_i s3 (ms_rf (ms_rf l0 6) 4) 1) 0 0)
  (fun e1 => some (.inr e1, σ))
def f_X10_shortness  (σ : MsSt) (l0 : Nat) (l1 : Int32) : Option ((UInt32 ⊕ Nat) × MsSt) :=
  ms_bt (f_X10_needLine σ l0 l1)
  ((f_X6_lineAt σ (ms_rf l0 1) l1).bind fun v2 =>
   (f_X1_derive σ (ms_rf l0 6) v2 (-1)).bind fun s3 =>
   if (ms_i s3 (ms_rf (ms_rf l0 6) 2) 1) = 0 then
     some (.inl 0, s3)
   else
     (ms_fdiv (FP.i2f (ms_i s3 (ms_rf (ms_rf l0 6) 3) 1)) (FP.i2f (ms_i s3 (ms_rf (ms_rf l0 6) 2) 1))).bind fun v4 =>
     some (.inl v4, s3))
  (fun e1 => some (.inr e1, σ))
def f_X10_hand  (σ : MsSt) (l0 : Nat) (l1 : Int32) : Option ((Int32 ⊕ Nat) × MsSt) :=
  ms_bt (f_X10_needLine σ l0 l1)
  ((f_X2_record σ (ms_rf l0 4) (ms_rf l0 1)).bind fun s2 =>
   ms_nm (ms_si s2 (ms_rf l0 1) 6 l1) fun s3 =>
   some (.inl (ms_i s2 (ms_rf l0 1) 6), s3))
  (fun e1 => some (.inr e1, σ))
def f_X10_allowIn  (σ : MsSt) (l0 : Int32) (l1 : Int32) (l2 : Int32) : Option (Option Nat) :=
  if l0 < l1 then
    some (some 1)
  else
    if l2 < l0 then
      some (some 1)
    else
      some none
def f_X10_type  (σ : MsSt) (l0 : Nat) (l1 : Int32) (l2 : Int32) (l3 : Int32) : Option ((Int32 ⊕ Nat) × MsSt) :=
  ms_bt (f_X10_needLine σ l0 l1)
  (ms_bt (f_X10_needSign σ l0 l3)
   ((f_X6_lineAt σ (ms_rf l0 1) l1).bind fun v3 =>
    ms_bt (f_X10_allowIn σ l2 0 (ms_i σ v3 1))
    (if (ms_i σ v3 1) < 60 then
       (f_X2_record σ (ms_rf l0 4) (ms_rf l0 1)).bind fun s5 =>
       (f_X5_insert s5 v3 l2 l3).bind fun s6 =>
       (f_X1_derive s6 (ms_rf l0 6) v3 (-1)).bind fun s7 =>
       some (.inl (ms_i s7 (ms_rf (ms_rf l0 6) 2) 1), s7)
     else
       some (.inl (-2), σ))
    (fun e4 => some (.inr e4, σ)))
   (fun e2 => some (.inr e2, σ)))
  (fun e1 => some (.inr e1, σ))
def f_X10_erase  (σ : MsSt) (l0 : Nat) (l1 : Int32) (l2 : Int32) (l3 : Int32) : Option ((Int32 ⊕ Nat) × MsSt) :=
  ms_bt (f_X10_needLine σ l0 l1)
  ((f_X6_lineAt σ (ms_rf l0 1) l1).bind fun v2 =>
   ms_bt (f_X10_needIn σ l2 0 ((ms_i σ v2 1) - 1))
   (ms_bt (f_X10_needIn σ l3 0 ((ms_i σ v2 1) - 1))
    (ms_bt (f_X10_allowIn σ l3 l2 (ms_i σ v2 1))
     ((f_X2_record σ (ms_rf l0 4) (ms_rf l0 1)).bind fun s6 =>
      (f_X5_cut s6 v2 l2 l3).bind fun s7 =>
      some (.inl (ms_i s7 v2 1), s7))
     (fun e5 => some (.inr e5, σ)))
    (fun e4 => some (.inr e4, σ)))
   (fun e3 => some (.inr e3, σ)))
  (fun e1 => some (.inr e1, σ))
def f_X10_stack  (σ : MsSt) (l0 : Nat) (l1 : Int32) (l2 : Int32) (l3 : Int32) : Option ((Int32 ⊕ Nat) × MsSt) :=
  ms_bu (f_X10_needCluster σ l0 l1 l2)
  (fun s2 =>
    ms_bt (f_X10_needSign s2 l0 l3)
    ((f_X6_kindOf s2 (ms_rf l0 1) l3).bind fun v4 =>
     ms_bt (f_X10_allowIn s2 v4 1 1)
     (if (ms_i s2 (ms_rf (ms_rf l0 6) 2) 1) < 60 then
        (f_X2_record s2 (ms_rf l0 4) (ms_rf l0 1)).bind fun s6 =>
        (f_X6_classOf s6 (ms_rf l0 1) l3).bind fun v7 =>
        (f_X1_marksUpTo s6 (ms_rf l0 6) l2 v7).bind fun v8 =>
        (f_X6_lineAt s6 (ms_rf l0 1) l1).bind fun v9 =>
        (f_X5_takeOver s6 v9 (ms_rf (ms_rf l0 6) 2)).bind fun s10 =>
        (f_X1_firstMark s10 (ms_rf l0 6) l2).bind fun v11 =>
        (f_X5_insert s10 v9 (v11 + v8) l3).bind fun s12 =>
        some (.inl v8, s12)
      else
        some (.inl (-2), s2))
     (fun e5 => some (.inr e5, s2)))
    (fun e3 => some (.inr e3, s2)))
  (fun e1 s2 => some (.inr e1, s2))
def f_X10_strip  (σ : MsSt) (l0 : Nat) (l1 : Int32) (l2 : Int32) (l3 : Int32) : Option ((Int32 ⊕ Nat) × MsSt) :=
  ms_bu (f_X10_needCluster σ l0 l1 l2)
  (fun s2 =>
    ms_bt (f_X10_allowIn s2 l3 0 3)
    ((f_X1_marksOfSide s2 (ms_rf l0 6) l2 l3).bind fun v4 =>
     if 60 < ((ms_i s2 (ms_rf (ms_rf l0 6) 2) 1) - v4) then
       some (.inl (-2), s2)
     else
       (f_X2_record s2 (ms_rf l0 4) (ms_rf l0 1)).bind fun s5 =>
       (f_X6_lineAt s5 (ms_rf l0 1) l1).bind fun v6 =>
       (f_X1_writeWithout s5 (ms_rf l0 6) l2 l3 v6).bind fun s7 =>
       some (.inl v4, s7))
    (fun e3 => some (.inr e3, s2)))
  (fun e1 s2 => some (.inr e1, s2))
def f_X10_rewrite  (σ : MsSt) (l0 : Nat) (l1 : Int32) (l2 : Int32) : Option (Int32 × MsSt) :=
  ms_b2 (f_X10_rowOf σ l0 l1 l2) fun v1 s2 =>
  if 60 < (ms_i s2 v1 1) then
    some ((-2), s2)
  else
    (f_X2_record s2 (ms_rf l0 4) (ms_rf l0 1)).bind fun s3 =>
    (f_X6_lineAt s3 (ms_rf l0 1) l1).bind fun v4 =>
    (f_X5_takeOver s3 v4 v1).bind fun s5 =>
    some ((ms_i s5 v1 1), s5)
def f_X10_decompose  (σ : MsSt) (l0 : Nat) (l1 : Int32) : Option ((Int32 ⊕ Nat) × MsSt) :=
  ms_bt (f_X10_needLine σ l0 l1)
  (ms_b2 (f_X10_rewrite σ l0 l1 1) fun v2 s3 =>
   some (.inl v2, s3))
  (fun e1 => some (.inr e1, σ))
def f_X10_compose  (σ : MsSt) (l0 : Nat) (l1 : Int32) : Option ((Int32 ⊕ Nat) × MsSt) :=
  ms_bt (f_X10_needLine σ l0 l1)
  (ms_b2 (f_X10_rewrite σ l0 l1 2) fun v2 s3 =>
   some (.inl v2, s3))
  (fun e1 => some (.inr e1, σ))
def f_X10_join  (σ : MsSt) (l0 : Nat) (l1 : Int32) (l2 : Int32) : Option ((Int32 ⊕ Nat) × MsSt) :=
  ms_bt (f_X10_needLine σ l0 l1)
  (ms_bt (f_X10_needLine σ l0 l2)
   ((f_X6_lineAt σ (ms_rf l0 1) l1).bind fun v3 =>
    (f_X6_lineAt σ (ms_rf l0 1) l2).bind fun v4 =>
    if 60 < ((ms_i σ v3 1) + (ms_i σ v4 1)) then
      some (.inl (-2), σ)
    else
      (f_X2_record σ (ms_rf l0 4) (ms_rf l0 1)).bind fun s5 =>
      (f_X5_addAll s5 v3 v4).bind fun s6 =>
      some (.inl (ms_i s6 v3 1), s6))
   (fun e2 => some (.inr e2, σ)))
  (fun e1 => some (.inr e1, σ))
def f_X10_setClass  (σ : MsSt) (l0 : Nat) (l1 : Int32) (l2 : Int32) : Option ((Int32 ⊕ Nat) × MsSt) :=
  ms_bt (f_X10_needSign σ l0 l1)
  ((f_X6_kindOf σ (ms_rf l0 1) l1).bind fun v2 =>
   ms_bt (f_X10_allowIn σ v2 1 1)
   (ms_bt (f_X10_allowIn σ l2 1 60)
    ((f_X6_mayHaveClass σ (ms_rf l0 1) l1 l2).bind fun v5 =>
     if v5 = 0 then
       some (.inl (-2), σ)
     else
       (f_X2_record σ (ms_rf l0 4) (ms_rf l0 1)).bind fun s6 =>
       (f_X6_told s6 (ms_rf l0 1) l1).bind fun v7 =>
       ms_nm (ms_si s6 v7 4 l2) fun s8 =>
       some (.inl (ms_i s6 v7 4), s8))
    (fun e4 => some (.inr e4, σ)))
   (fun e3 => some (.inr e3, σ)))
  (fun e1 => some (.inr e1, σ))
def f_X10_setSpare  (σ : MsSt) (l0 : Nat) (l1 : Int32) (l2 : Int32) : Option ((Int32 ⊕ Nat) × MsSt) :=
  ms_bt (f_X10_needSign σ l0 l1)
  ((f_X6_kindOf σ (ms_rf l0 1) l1).bind fun v2 =>
   ms_bt (f_X10_allowIn σ v2 2 2)
   ((f_X2_record σ (ms_rf l0 4) (ms_rf l0 1)).bind fun s4 =>
    (f_X6_told s4 (ms_rf l0 1) l1).bind fun v5 =>
    if (ms_i s4 v5 13) = 0 then
      (ms_bz l2).bind fun v6 =>
      ms_nm (ms_si s4 v5 13 v6) fun s7 =>
      some (.inl 0, s7)
    else
      (ms_bz l2).bind fun v8 =>
      ms_nm (ms_si s4 v5 13 v8) fun s9 =>
      some (.inl 1, s9))
   (fun e3 => some (.inr e3, σ)))
  (fun e1 => some (.inr e1, σ))
def f_X10_writeName_39   : Nat → MsSt → Nat → Nat → Int32 → Option (MsSt)
  | 0, _, _, _, _ => none
  | n + 1, σ, l0, l1, l2 =>
    if l2 < 4 then
      (f_X7_letterAt σ l1 l2).bind fun v1 =>
      if v1 = (-1) then
        (f_X10_writeName_39 n) σ l0 l1 (l2 + 1)
      else
        (f_X5_add σ (ms_rf l0 11) v1).bind fun s2 =>
        (f_X10_writeName_39 n) s2 l0 l1 (l2 + 1)
    else
      some σ
def f_X10_writeName  (σ : MsSt) (l0 : Nat) (l1 : Nat) : Option (MsSt) :=
  if (ms_i σ l1 1) = 1 then
    (f_X5_add σ (ms_rf l0 11) 43).bind fun s4 =>
    f_X10_writeName_39 ms_fuel s4 l0 l1 0
  else
    if (ms_i σ l1 1) = 2 then
      (f_X5_add σ (ms_rf l0 11) 42).bind fun s3 =>
      f_X10_writeName_39 ms_fuel s3 l0 l1 0
    else
      f_X10_writeName_39 ms_fuel σ l0 l1 0
def f_X10_format_51  (k28 : MsSt → Nat → Nat → Int32 → Option ((Int32 ⊕ Nat) × MsSt)) (σ : MsSt) (l0 : Nat) (l3 : Nat) (l4 : Int32) : Option ((Int32 ⊕ Nat) × MsSt) :=
  (f_X5_get σ l3 l4).bind fun v6 =>
  (f_X6_told σ (ms_rf l0 1) v6).bind fun v7 =>
  (f_X10_writeName σ l0 v7).bind fun s8 =>
  k28 s8 l0 l3 (l4 + 1)
def f_X10_format_28   : Nat → MsSt → Nat → Nat → Int32 → Option ((Int32 ⊕ Nat) × MsSt)
  | 0, _, _, _, _ => none
  | n + 1, σ, l0, l3, l4 =>
    if l4 < (ms_i σ l3 1) then
      if 0 < l4 then
        (f_X5_add σ (ms_rf l0 11) 32).bind fun s9 =>
        f_X10_format_51 (f_X10_format_28 n) s9 l0 l3 l4
      else
        f_X10_format_51 (f_X10_format_28 n) σ l0 l3 l4
    else
      some (.inl (ms_i σ (ms_rf l0 11) 1), σ)
def f_X10_format  (σ : MsSt) (l0 : Nat) (l1 : Int32) (l2 : Int32) : Option ((Int32 ⊕ Nat) × MsSt) :=
  ms_bt (f_X10_needLine σ l0 l1)
  (ms_bt (f_X10_needIn σ l2 0 2)
   (ms_b2 (f_X10_rowOf σ l0 l1 l2) fun v3 s4 =>
    (f_X5_clear s4 (ms_rf l0 11)).bind fun s5 =>
    f_X10_format_28 ms_fuel s5 l0 v3 0)
   (fun e2 => some (.inr e2, σ)))
  (fun e1 => some (.inr e1, σ))
def f_X10_formattedByte  (σ : MsSt) (l0 : Nat) (l1 : Int32) : Option (Int32) :=
  (f_X5_get σ (ms_rf l0 11) l1).bind fun v1 =>
  some v1
def f_X10_undoCount  (σ : MsSt) (l0 : Nat) : Option (Int32) :=
  some (ms_i σ (ms_rf l0 4) 2)
def f_X10_undo  (σ : MsSt) (l0 : Nat) : Option (Int32 × MsSt) :=
  ms_b2 (f_X2_takeBack σ (ms_rf l0 4) (ms_rf l0 1)) fun v1 s2 =>
  some (v1, s2)
def f_X10_saveSnapshot  (σ : MsSt) (l0 : Nat) : Option (MsSt) :=
  (f_X3_keep σ (ms_rf l0 5) (ms_rf l0 1)).bind fun s1 =>
  ms_nm (ms_si s1 l0 12 1) fun s2 =>
  some s2
def f_X10_restoreSnapshot  (σ : MsSt) (l0 : Nat) : Option (Int32 × MsSt) :=
  if (ms_i σ l0 12) = 0 then
    some (0, σ)
  else
    (f_X3_giveBack σ (ms_rf l0 5) (ms_rf l0 1)).bind fun s1 =>
    (f_X2_forget s1 (ms_rf l0 4)).bind fun s2 =>
    some (1, s2)
def f_X10_query  (σ : MsSt) (l0 : Nat) (l1 : Int32) : Option ((Int32 ⊕ Nat) × MsSt) :=
  ms_bt (f_X10_needLength σ l0 l1 200)
  (ms_b2 (f_X4_readQuery σ (ms_rf l0 3) l1) fun v2 s3 =>
   ms_nm (ms_si s3 (ms_rf l0 0) 1 0) fun s4 =>
   ms_nm (ms_si s4 l0 13 (ms_i s4 (ms_rf l0 0) 8)) fun s5 =>
   if (ms_i s5 (ms_rf l0 0) 7) = 0 then
     some (.inl v2, s5)
   else
     some (.inl ((-1000000000) - (ms_i s5 (ms_rf l0 0) 7)), s5))
  (fun e1 => some (.inr e1, σ))
def f_X12_thrown  (σ : MsSt) (l0 : Nat) : Option (Int32) :=
  some (ms_i σ l0 7)
def f_X12_raise  (σ : MsSt) (l0 : Nat) (l1 : Int32) : Option (Int32 × MsSt) :=
  ms_nm (ms_si σ l0 7 l1) fun s1 =>
  some (0, s1)
def f_X12_inRange  (σ : MsSt) (l0 : Int64) (l2 : Int64) (l4 : Int64) : Option (Int32) :=
  if (lg_cmp l0 l2) < 0 then
    some 0
  else
    if 0 < (lg_cmp l0 l4) then
      some 0
    else
      some 1
def f_X12_of  (σ : MsSt) (l0 : Int32) (l1 : Int32) : Option (Int32) :=
  some ((247 + (7 * l0)) + l1)
def f_X12_spot  (σ : MsSt) (l0 : Int32) (l1 : Int32) : Option (Int32) :=
  some ((7 + (60 * l0)) + l1)
def f_X12_isSign  (σ : MsSt) (l0 : Nat) (l1 : Int32) : Option (Int32) :=
  (ms_ald σ (ms_rf l0 0) 0).bind fun v1 =>
  (f_X12_inRange σ l1.toInt64 0 ((v1 - 1).toInt64)).bind fun v2 =>
  (ms_bz v2).bind fun v3 =>
  some v3
def f_X12_isOfKind  (σ : MsSt) (l0 : Nat) (l1 : Int32) (l2 : Int32) : Option (Int32) :=
  (f_X12_of σ l1 0).bind fun v1 =>
  (ms_ald σ (ms_rf l0 0) v1).bind fun v2 =>
  if v2 = l2 then
    some 1
  else
    some 0
def f_X12_isLine  (σ : MsSt) (l0 : Nat) (l1 : Int32) : Option (Int32) :=
  (ms_ald σ (ms_rf l0 0) 1).bind fun v1 =>
  (f_X12_inRange σ l1.toInt64 0 ((v1 - 1).toInt64)).bind fun v2 =>
  (ms_bz v2).bind fun v3 =>
  some v3
def f_X12_isPlace  (σ : MsSt) (l0 : Nat) (l1 : Int32) (l2 : Int32) : Option (Int32) :=
  (f_X12_isLine σ l0 l1).bind fun v1 =>
  if v1 = 0 then
    some 0
  else
    (ms_ald σ (ms_rf l0 0) (3 + l1)).bind fun v2 =>
    (f_X12_inRange σ l2.toInt64 0 ((v2 - 1).toInt64)).bind fun v3 =>
    if v3 = 0 then
      some 0
    else
      some 1
def f_X12_noLine  (σ : MsSt) (l0 : Nat) (l1 : Int32) : Option (Int32 × MsSt) :=
  (f_X12_isLine σ l0 l1).bind fun v1 =>
  if v1 = 0 then
    ms_nm (ms_si σ l0 7 1) fun s2 =>
    if (ms_i s2 l0 7) = 0 then
      some (0, s2)
    else
      some (1, s2)
  else
    ms_nm (ms_si σ l0 7 0) fun s3 =>
    if (ms_i s3 l0 7) = 0 then
      some (0, s3)
    else
      some (1, s3)
def f_X12_noSign  (σ : MsSt) (l0 : Nat) (l1 : Int32) : Option (Int32 × MsSt) :=
  (f_X12_isSign σ l0 l1).bind fun v1 =>
  if v1 = 0 then
    ms_nm (ms_si σ l0 7 1) fun s2 =>
    if (ms_i s2 l0 7) = 0 then
      some (0, s2)
    else
      some (1, s2)
  else
    ms_nm (ms_si σ l0 7 0) fun s3 =>
    if (ms_i s3 l0 7) = 0 then
      some (0, s3)
    else
      some (1, s3)
def f_X12_noTwoLines_21   (σ : MsSt) (l0 : Nat) (t0 : Nat) : Option (Int32 × MsSt) :=
  ms_nm (ms_si σ t0 7 1) fun s2 =>
  if (ms_i s2 l0 7) = 0 then
    some (0, s2)
  else
    some (1, s2)
def f_X12_noTwoLines  (σ : MsSt) (l0 : Nat) (l1 : Int32) (l2 : Int32) : Option (Int32 × MsSt) :=
  (f_X12_isLine σ l0 l1).bind fun v1 =>
  if v1 = 0 then
    f_X12_noTwoLines_21 σ l0 l0
  else
    (f_X12_isLine σ l0 l2).bind fun v3 =>
    if v3 = 0 then
      f_X12_noTwoLines_21 σ l0 l0
    else
      ms_nm (ms_si σ l0 7 0) fun s4 =>
      if (ms_i s4 l0 7) = 0 then
        some (0, s4)
      else
        some (1, s4)
def f_X12_parts_4  (σ : MsSt) : Nat → Nat → Int32 → Int32 → Option (Int32)
  | 0, _, _, _ => none
  | n + 1, l0, l2, l3 =>
    (f_X12_of σ l3 0).bind fun v1 =>
    (ms_ald σ l0 v1).bind fun v2 =>
    if v2 = 2 then
      (f_X12_of σ l3 3).bind fun v3 =>
      (ms_ald σ l0 v3).bind fun v4 =>
      (f_X12_parts_4 σ n) l0 (l2 + 1) v4
    else
      some l2
def f_X12_parts  (σ : MsSt) (l0 : Nat) (l1 : Int32) : Option (Int32) :=
  f_X12_parts_4 σ ms_fuel l0 1 l1
def f_X12_expand_16   : Nat → MsSt → Nat → Int32 → Int32 → Int32 → Option (Int32 × MsSt)
  | 0, _, _, _, _, _ => none
  | n + 1, σ, l0, l2, l3, l4 =>
    if 0 < l4 then
      (f_X12_of σ l3 4).bind fun v3 =>
      (ms_ald σ (ms_rf l0 0) v3).bind fun v4 =>
      (ms_ast σ (ms_rf l0 9) l4 v4).bind fun s5 =>
      (f_X12_of s5 l3 3).bind fun v6 =>
      (ms_ald s5 (ms_rf l0 0) v6).bind fun v7 =>
      (f_X12_expand_16 n) s5 l0 l2 v7 (l4 + (-1))
    else
      (ms_ast σ (ms_rf l0 9) 0 l3).bind fun s2 =>
      some (l2, s2)
def f_X12_expand  (σ : MsSt) (l0 : Nat) (l1 : Int32) : Option (Int32 × MsSt) :=
  (f_X12_parts σ (ms_rf l0 0) l1).bind fun v1 =>
  f_X12_expand_16 ms_fuel σ l0 v1 l1 (v1 - 1)
def f_X12_isMark  (σ : MsSt) (l0 : Nat) (l1 : Int32) : Option (Int32) :=
  (f_X12_isOfKind σ l0 l1 1).bind fun v1 =>
  (ms_bz v1).bind fun v2 =>
  some v2
def f_X12_add_92   (σ : MsSt) (l0 : Nat) (l1 : Int32) (l2 : Int32) : Option (MsSt) :=
  (ms_ast σ (ms_rf l0 10) l2 l1).bind fun s2 =>
  ms_nm (ms_si s2 l0 11 ((ms_i s2 l0 11) + 1)) fun s3 =>
  some s3
def f_X12_add_5   : Nat → MsSt → Nat → Int32 → Int32 → Option (MsSt)
  | 0, _, _, _, _ => none
  | n + 1, σ, l0, l1, l2 =>
    (f_X12_isMark σ l0 l1).bind fun v1 =>
    if v1 = 0 then
      f_X12_add_92 σ l0 l1 l2
    else
      if 0 < l2 then
        (ms_ald σ (ms_rf l0 10) (l2 - 1)).bind fun v4 =>
        (f_X12_isMark σ l0 v4).bind fun v5 =>
        if v5 = 0 then
          f_X12_add_92 σ l0 l1 l2
        else
          (ms_ald σ (ms_rf l0 10) (l2 - 1)).bind fun v6 =>
          (f_X12_of σ v6 1).bind fun v7 =>
          (ms_ald σ (ms_rf l0 0) v7).bind fun v8 =>
          (f_X12_of σ l1 1).bind fun v9 =>
          (ms_ald σ (ms_rf l0 0) v9).bind fun v10 =>
          if v10 < v8 then
            (ms_ald σ (ms_rf l0 10) (l2 - 1)).bind fun v11 =>
            (ms_ast σ (ms_rf l0 10) l2 v11).bind fun s12 =>
            ms_nm (ms_si s12 l0 12 ((ms_i s12 l0 12) + 1)) fun s13 =>
            (f_X12_add_5 n) s13 l0 l1 (l2 + (-1))
          else
            f_X12_add_92 σ l0 l1 l2
      else
        f_X12_add_92 σ l0 l1 l2
def f_X12_add  (σ : MsSt) (l0 : Nat) (l1 : Int32) : Option (MsSt) :=
  f_X12_add_5 ms_fuel σ l0 l1 (ms_i σ l0 11)
def f_X12_addExpanded_8   : Nat → MsSt → Nat → Int32 → Int32 → Option (MsSt)
  | 0, _, _, _, _ => none
  | n + 1, σ, l0, l2, l3 =>
    if l3 < l2 then
      (ms_ald σ (ms_rf l0 9) l3).bind fun v3 =>
      (f_X12_add σ l0 v3).bind fun s4 =>
      (f_X12_addExpanded_8 n) s4 l0 l2 (l3 + 1)
    else
      some σ
def f_X12_addExpanded  (σ : MsSt) (l0 : Nat) (l1 : Int32) : Option (MsSt) :=
  ms_b2 (f_X12_expand σ l0 l1) fun v1 s2 =>
  f_X12_addExpanded_8 ms_fuel s2 l0 v1 0
def f_X12_layDecomposed_12   : Nat → MsSt → Nat → Int32 → Int32 → Option (MsSt)
  | 0, _, _, _, _ => none
  | n + 1, σ, l0, l1, l2 =>
    (ms_ald σ (ms_rf l0 0) (3 + l1)).bind fun v3 =>
    if l2 < v3 then
      (f_X12_spot σ l1 l2).bind fun v4 =>
      (ms_ald σ (ms_rf l0 0) v4).bind fun v5 =>
      (f_X12_addExpanded σ l0 v5).bind fun s6 =>
      (f_X12_layDecomposed_12 n) s6 l0 l1 (l2 + 1)
    else
      some σ
def f_X12_layDecomposed  (σ : MsSt) (l0 : Nat) (l1 : Int32) : Option (MsSt) :=
  ms_nm (ms_si σ l0 11 0) fun s1 =>
  ms_nm (ms_si s1 l0 12 0) fun s2 =>
  f_X12_layDecomposed_12 ms_fuel s2 l0 l1 0
def f_X12_findPair_2  (σ : MsSt) : Nat → Nat → Int32 → Int32 → Int32 → Option (Int32)
  | 0, _, _, _, _ => none
  | n + 1, l0, l1, l2, l3 =>
    (ms_ald σ l0 0).bind fun v1 =>
    if l3 < v1 then
      (f_X12_of σ l3 0).bind fun v2 =>
      (ms_ald σ l0 v2).bind fun v3 =>
      if v3 = 2 then
        (f_X12_of σ l3 3).bind fun v4 =>
        (ms_ald σ l0 v4).bind fun v5 =>
        if v5 = l1 then
          (f_X12_of σ l3 4).bind fun v6 =>
          (ms_ald σ l0 v6).bind fun v7 =>
          if v7 = l2 then
            some l3
          else
            (f_X12_findPair_2 σ n) l0 l1 l2 (l3 + 1)
        else
          (f_X12_findPair_2 σ n) l0 l1 l2 (l3 + 1)
      else
        (f_X12_findPair_2 σ n) l0 l1 l2 (l3 + 1)
    else
      some (-1)
def f_X12_findPair  (σ : MsSt) (l0 : Nat) (l1 : Int32) (l2 : Int32) : Option (Int32) :=
  f_X12_findPair_2 σ ms_fuel l0 l1 l2 0
def f_X12_layComposed_198  (k14 : MsSt → Nat → Int32 → Int32 → Int64 → Int32 → Option (MsSt)) (σ : MsSt) (l0 : Nat) (l2 : Int32) (l3 : Int64) (l5 : Int32) (l6 : Int32) (t0 : Int32) : Option (MsSt) :=
  (ms_ast σ (ms_rf l0 13) (ms_i σ l0 15) l6).bind fun s6 =>
  (ms_ast s6 (ms_rf l0 14) (ms_i s6 l0 15) l2).bind fun s7 =>
  ms_nm (ms_si s7 l0 15 ((ms_i s7 l0 15) + 1)) fun s8 =>
  k14 s8 l0 t0 l2 l3 (l5 + 1)
def f_X12_layComposed_184  (k14 : MsSt → Nat → Int32 → Int32 → Int64 → Int32 → Option (MsSt)) (σ : MsSt) (l0 : Nat) (l1 : Int32) (l2 : Int32) (l5 : Int32) (l6 : Int32) (l7 : Int32) (t0 : Int64) : Option (MsSt) :=
  if l7 = 0 then
    f_X12_layComposed_198 k14 σ l0 l2 t0 l5 l6 l1
  else
    f_X12_layComposed_198 k14 σ l0 l2 t0 l5 l6 (ms_i σ l0 15)
def f_X12_layComposed_159  (k14 : MsSt → Nat → Int32 → Int32 → Int64 → Int32 → Option (MsSt)) (σ : MsSt) (l0 : Nat) (l1 : Int32) (l3 : Int64) (l5 : Int32) (l6 : Int32) (l7 : Int32) (t0 : Int32) : Option (MsSt) :=
  if l7 = 0 then
    (f_X12_of σ l6 1).bind fun v4 =>
    (ms_ald σ (ms_rf l0 0) v4).bind fun v5 =>
    f_X12_layComposed_184 k14 σ l0 l1 t0 l5 l6 l7 (l3 ||| (((1 : Int64) <<< (v5.toInt64 &&& 63))))
  else
    f_X12_layComposed_184 k14 σ l0 l1 t0 l5 l6 l7 0
def f_X12_layComposed_152  (k14 : MsSt → Nat → Int32 → Int32 → Int64 → Int32 → Option (MsSt)) (σ : MsSt) (l0 : Nat) (l1 : Int32) (l2 : Int32) (l3 : Int64) (l5 : Int32) (l6 : Int32) (l7 : Int32) : Option (MsSt) :=
  f_X12_layComposed_159 k14 σ l0 l1 l3 l5 l6 l7 (l2 + 1)
def f_X12_layComposed_142  (k14 : MsSt → Nat → Int32 → Int32 → Int64 → Int32 → Option (MsSt)) (σ : MsSt) (l0 : Nat) (l1 : Int32) (l2 : Int32) (l3 : Int64) (l5 : Int32) (l6 : Int32) (l7 : Int32) : Option (MsSt) :=
  if l7 = 0 then
    if l2 = (-1) then
      f_X12_layComposed_152 k14 σ l0 l1 l2 l3 l5 l6 l7
    else
      f_X12_layComposed_159 k14 σ l0 l1 l3 l5 l6 l7 l2
  else
    f_X12_layComposed_152 k14 σ l0 l1 l2 l3 l5 l6 l7
def f_X12_layComposed_109  (k14 : MsSt → Nat → Int32 → Int32 → Int64 → Int32 → Option (MsSt)) (σ : MsSt) (l0 : Nat) (l1 : Int32) (l2 : Int32) (l3 : Int64) (l5 : Int32) (l6 : Int32) (l7 : Int32) (t0 : Int32) : Option (MsSt) :=
  if t0 = (-1) then
    f_X12_layComposed_142 k14 σ l0 l1 l2 l3 l5 l6 l7
  else
    (f_X12_of σ t0 5).bind fun v9 =>
    (ms_ald σ (ms_rf l0 0) v9).bind fun v10 =>
    if v10 = 0 then
      (ms_ast σ (ms_rf l0 13) l1 t0).bind fun s11 =>
      k14 s11 l0 l1 l2 l3 (l5 + 1)
    else
      f_X12_layComposed_142 k14 σ l0 l1 l2 l3 l5 l6 l7
def f_X12_layComposed_83  (k14 : MsSt → Nat → Int32 → Int32 → Int64 → Int32 → Option (MsSt)) (σ : MsSt) (l0 : Nat) (l1 : Int32) (l2 : Int32) (l3 : Int64) (l5 : Int32) (l6 : Int32) (l7 : Int32) (t0 : Int32) : Option (MsSt) :=
  if t0 = 0 then
    f_X12_layComposed_109 k14 σ l0 l1 l2 l3 l5 l6 l7 (-1)
  else
    (ms_ald σ (ms_rf l0 13) l1).bind fun v12 =>
    (f_X12_findPair σ (ms_rf l0 0) v12 l6).bind fun v13 =>
    f_X12_layComposed_109 k14 σ l0 l1 l2 l3 l5 l6 l7 v13
def f_X12_layComposed_82  (k14 : MsSt → Nat → Int32 → Int32 → Int64 → Int32 → Option (MsSt)) (σ : MsSt) (l0 : Nat) (l1 : Int32) (l2 : Int32) (l3 : Int64) (l5 : Int32) (l6 : Int32) (l7 : Int32) : Option (MsSt) :=
  f_X12_layComposed_83 k14 σ l0 l1 l2 l3 l5 l6 l7 0
def f_X12_layComposed_46  (k14 : MsSt → Nat → Int32 → Int32 → Int64 → Int32 → Option (MsSt)) (σ : MsSt) (l0 : Nat) (l1 : Int32) (l2 : Int32) (l3 : Int64) (l5 : Int32) (l6 : Int32) (t0 : Int32) : Option (MsSt) :=
  if t0 = 0 then
    if l1 = (-1) then
      f_X12_layComposed_82 k14 σ l0 l1 l2 l3 l5 l6 t0
    else
      (f_X12_of σ l6 1).bind fun v14 =>
      (ms_ald σ (ms_rf l0 0) v14).bind fun v15 =>
      if (lg_cmp (((l3 >>> (v15.toInt64 &&& 63))) &&& 1) 0) = 0 then
        f_X12_layComposed_83 k14 σ l0 l1 l2 l3 l5 l6 t0 1
      else
        f_X12_layComposed_82 k14 σ l0 l1 l2 l3 l5 l6 t0
  else
    f_X12_layComposed_82 k14 σ l0 l1 l2 l3 l5 l6 t0
def f_X12_layComposed_14   : Nat → MsSt → Nat → Int32 → Int32 → Int64 → Int32 → Option (MsSt)
  | 0, _, _, _, _, _, _ => none
  | n + 1, σ, l0, l1, l2, l3, l5 =>
    if l5 < (ms_i σ l0 11) then
      (ms_ald σ (ms_rf l0 10) l5).bind fun v2 =>
      (f_X12_isMark σ l0 v2).bind fun v3 =>
      if v3 = 0 then
        f_X12_layComposed_46 (f_X12_layComposed_14 n) σ l0 l1 l2 l3 l5 v2 1
      else
        f_X12_layComposed_46 (f_X12_layComposed_14 n) σ l0 l1 l2 l3 l5 v2 0
    else
      some σ
def f_X12_layComposed  (σ : MsSt) (l0 : Nat) : Option (MsSt) :=
  ms_nm (ms_si σ l0 15 0) fun s1 =>
  f_X12_layComposed_14 ms_fuel s1 l0 (-1) (-1) 0 0
def f_X12_layForms  (σ : MsSt) (l0 : Nat) (l1 : Int32) : Option (MsSt) :=
  (f_X12_layDecomposed σ l0 l1).bind fun s1 =>
  (f_X12_layComposed s1 l0).bind fun s2 =>
  some s2
def f_X12_layClusters_37  (k12 : MsSt → Nat → Int32 → Option (MsSt)) (σ : MsSt) (l0 : Nat) (l2 : Int32) : Option (MsSt) :=
  (ms_ast σ (ms_rf l0 16) (ms_i σ l0 17) l2).bind fun s4 =>
  ms_nm (ms_si s4 l0 17 ((ms_i s4 l0 17) + 1)) fun s5 =>
  k12 s5 l0 (l2 + 1)
def f_X12_layClusters_12   : Nat → MsSt → Nat → Int32 → Option (MsSt)
  | 0, _, _, _ => none
  | n + 1, σ, l0, l2 =>
    if l2 < (ms_i σ l0 11) then
      if l2 = 0 then
        f_X12_layClusters_37 (f_X12_layClusters_12 n) σ l0 l2
      else
        (ms_ald σ (ms_rf l0 10) l2).bind fun v6 =>
        (f_X12_isMark σ l0 v6).bind fun v7 =>
        if v7 = 0 then
          f_X12_layClusters_37 (f_X12_layClusters_12 n) σ l0 l2
        else
          (f_X12_layClusters_12 n) σ l0 (l2 + 1)
    else
      (ms_ast σ (ms_rf l0 16) (ms_i σ l0 17) (ms_i σ l0 11)).bind fun s3 =>
      some s3
def f_X12_layClusters  (σ : MsSt) (l0 : Nat) (l1 : Int32) : Option (MsSt) :=
  (f_X12_layDecomposed σ l0 l1).bind fun s1 =>
  ms_nm (ms_si s1 l0 17 0) fun s2 =>
  f_X12_layClusters_12 ms_fuel s2 l0 0
def f_X12_baseOf  (σ : MsSt) (l0 : Nat) (l1 : Int32) : Option (Int32) :=
  (ms_ald σ (ms_rf l0 16) l1).bind fun v1 =>
  (ms_ald σ (ms_rf l0 10) v1).bind fun v2 =>
  (f_X12_isMark σ l0 v2).bind fun v3 =>
  if v3 = 0 then
    some v2
  else
    some (-1)
def f_X12_firstMark  (σ : MsSt) (l0 : Nat) (l1 : Int32) : Option (Int32) :=
  (ms_ald σ (ms_rf l0 16) l1).bind fun v1 =>
  (f_X12_baseOf σ l0 l1).bind fun v2 =>
  if v2 = (-1) then
    some (v1 + 0)
  else
    some (v1 + 1)
def f_X12_marksOf  (σ : MsSt) (l0 : Nat) (l1 : Int32) : Option (Int32) :=
  (ms_ald σ (ms_rf l0 16) (l1 + 1)).bind fun v1 =>
  (f_X12_firstMark σ l0 l1).bind fun v2 =>
  some (v1 - v2)
def f_X12_ofBase  (σ : MsSt) (l0 : Nat) (l1 : Int32) (l2 : Int32) : Option (Int32) :=
  (f_X12_baseOf σ l0 l1).bind fun v1 =>
  if v1 = (-1) then
    some 0
  else
    (f_X12_of σ v1 l2).bind fun v2 =>
    (ms_ald σ (ms_rf l0 0) v2).bind fun v3 =>
    some v3
def f_X12_penOf_4  (σ : MsSt) : Nat → Nat → Int32 → Int32 → Int32 → Option (Int32)
  | 0, _, _, _, _ => none
  | n + 1, l0, l1, l2, l3 =>
    if l3 < l1 then
      (f_X12_ofBase σ l0 l3 3).bind fun v1 =>
      (f_X12_penOf_4 σ n) l0 l1 (l2 + v1) (l3 + 1)
    else
      some l2
def f_X12_penOf  (σ : MsSt) (l0 : Nat) (l1 : Int32) : Option (Int32) :=
  f_X12_penOf_4 σ ms_fuel l0 l1 0 0
def f_X12_isCluster  (σ : MsSt) (l0 : Nat) (l1 : Int32) (l2 : Int32) : Option (Int32 × MsSt) :=
  (f_X12_isLine σ l0 l1).bind fun v1 =>
  if v1 = 0 then
    some (0, σ)
  else
    (f_X12_layClusters σ l0 l1).bind fun s2 =>
    (f_X12_inRange s2 l2.toInt64 0 (((ms_i s2 l0 17) - 1).toInt64)).bind fun v3 =>
    (ms_bz v3).bind fun v4 =>
    some (v4, s2)
def f_X12_noCluster  (σ : MsSt) (l0 : Nat) (l1 : Int32) (l2 : Int32) : Option (Int32 × MsSt) :=
  ms_b2 (f_X12_isCluster σ l0 l1 l2) fun v1 s2 =>
  if v1 = 0 then
    ms_nm (ms_si s2 l0 7 1) fun s3 =>
    if (ms_i s3 l0 7) = 0 then
      some (0, s3)
    else
      some (1, s3)
  else
    ms_nm (ms_si s2 l0 7 0) fun s4 =>
    if (ms_i s4 l0 7) = 0 then
      some (0, s4)
    else
      some (1, s4)
def f_X12_layBoxes_220  (k54 : MsSt → Nat → Int32 → Nat → Int32 → Int32 → Int32 → Int32 → Int32 → Option (MsSt)) (σ : MsSt) (l0 : Nat) (l1 : Int32) (l2 : Nat) (l3 : Int32) (l4 : Int32) (l5 : Int32) (l7 : Int32) (l8 : Int32) (l10 : Int32) (l12 : Int32) (l13 : Int32) (t0 : Int32) : Option (MsSt) :=
  (ms_ast σ (ms_rf l2 0) (4 * l7) l12).bind fun s19 =>
  (f_X12_of s19 l8 3).bind fun v20 =>
  (ms_ald s19 (ms_rf l0 0) v20).bind fun v21 =>
  (ms_ast s19 (ms_rf l2 0) ((4 * l7) + 1) (l12 + v21)).bind fun s22 =>
  (ms_ast s22 (ms_rf l2 0) ((4 * l7) + 2) l13).bind fun s23 =>
  (ms_ast s23 (ms_rf l2 0) ((4 * l7) + 3) (l13 + l10)).bind fun s24 =>
  ms_nm (ms_si s24 l2 2 (if l12 < (ms_i s24 l2 2) then l12 else (ms_i s24 l2 2))) fun s25 =>
  (f_X12_of s25 l8 3).bind fun v26 =>
  (ms_ald s25 (ms_rf l0 0) v26).bind fun v27 =>
  ms_nm (ms_si s25 l2 3 (if (ms_i s25 l2 3) < (l12 + v27) then (l12 + v27) else (ms_i s25 l2 3))) fun s28 =>
  ms_nm (ms_si s28 l2 4 (if (ms_i s28 l2 4) < (l13 + l10) then (l13 + l10) else (ms_i s28 l2 4))) fun s29 =>
  ms_nm (ms_si s29 l2 5 (if l13 < (ms_i s29 l2 5) then l13 else (ms_i s29 l2 5))) fun s30 =>
  k54 s30 l0 l1 l2 l3 l4 l5 t0 (l7 + 1)
def f_X12_layBoxes_205  (k54 : MsSt → Nat → Int32 → Nat → Int32 → Int32 → Int32 → Int32 → Int32 → Option (MsSt)) (σ : MsSt) (l0 : Nat) (l1 : Int32) (l2 : Nat) (l3 : Int32) (l4 : Int32) (l6 : Int32) (l7 : Int32) (l8 : Int32) (l9 : Int32) (l10 : Int32) (l12 : Int32) (l13 : Int32) (t0 : Int32) : Option (MsSt) :=
  if l9 = 1 then
    f_X12_layBoxes_220 k54 σ l0 l1 l2 l3 l4 t0 l7 l8 l10 l12 l13 l13
  else
    f_X12_layBoxes_220 k54 σ l0 l1 l2 l3 l4 t0 l7 l8 l10 l12 l13 l6
def f_X12_layBoxes_188  (k54 : MsSt → Nat → Int32 → Nat → Int32 → Int32 → Int32 → Int32 → Int32 → Option (MsSt)) (σ : MsSt) (l0 : Nat) (l1 : Int32) (l2 : Nat) (l3 : Int32) (l4 : Int32) (l5 : Int32) (l6 : Int32) (l7 : Int32) (l8 : Int32) (l9 : Int32) (l10 : Int32) (l12 : Int32) (t0 : Int32) : Option (MsSt) :=
  if l9 = 0 then
    f_X12_layBoxes_205 k54 σ l0 l1 l2 l3 l4 l6 l7 l8 l9 l10 l12 t0 (t0 + l10)
  else
    f_X12_layBoxes_205 k54 σ l0 l1 l2 l3 l4 l6 l7 l8 l9 l10 l12 t0 l5
def f_X12_layBoxes_139  (k54 : MsSt → Nat → Int32 → Nat → Int32 → Int32 → Int32 → Int32 → Int32 → Option (MsSt)) (σ : MsSt) (l0 : Nat) (l1 : Int32) (l2 : Nat) (l3 : Int32) (l4 : Int32) (l5 : Int32) (l6 : Int32) (l7 : Int32) (l8 : Int32) (l9 : Int32) (l10 : Int32) (t0 : Int32) : Option (MsSt) :=
  (f_X12_of σ l8 5).bind fun v16 =>
  (ms_ald σ (ms_rf l0 0) v16).bind fun v17 =>
  if l9 = 0 then
    f_X12_layBoxes_188 k54 σ l0 l1 l2 l3 l4 l5 l6 l7 l8 l9 l10 (t0 - v17) (l5 + 1)
  else
    if l9 = 1 then
      f_X12_layBoxes_188 k54 σ l0 l1 l2 l3 l4 l5 l6 l7 l8 l9 l10 (t0 - v17) ((l6 - 1) - l10)
    else
      (ms_idiv l3 2).bind fun v18 =>
      f_X12_layBoxes_188 k54 σ l0 l1 l2 l3 l4 l5 l6 l7 l8 l9 l10 (t0 - v17) v18
def f_X12_layBoxes_54   : Nat → MsSt → Nat → Int32 → Nat → Int32 → Int32 → Int32 → Int32 → Int32 → Option (MsSt)
  | 0, _, _, _, _, _, _, _, _, _ => none
  | n + 1, σ, l0, l1, l2, l3, l4, l5, l6, l7 =>
    if l7 < (ms_i σ l2 1) then
      (f_X12_firstMark σ l0 l1).bind fun v9 =>
      (ms_ald σ (ms_rf l0 10) (v9 + l7)).bind fun v10 =>
      (f_X12_of σ v10 6).bind fun v11 =>
      (ms_ald σ (ms_rf l0 0) v11).bind fun v12 =>
      (f_X12_of σ v10 4).bind fun v13 =>
      (ms_ald σ (ms_rf l0 0) v13).bind fun v14 =>
      if v12 = 0 then
        (f_X12_ofBase σ l0 l1 5).bind fun v32 =>
        f_X12_layBoxes_139 (f_X12_layBoxes_54 n) σ l0 l1 l2 l3 l4 l5 l6 l7 v10 v12 v14 v32
      else
        if v12 = 1 then
          (f_X12_ofBase σ l0 l1 6).bind fun v31 =>
          f_X12_layBoxes_139 (f_X12_layBoxes_54 n) σ l0 l1 l2 l3 l4 l5 l6 l7 v10 v12 v14 v31
        else
          (ms_idiv l4 2).bind fun v15 =>
          f_X12_layBoxes_139 (f_X12_layBoxes_54 n) σ l0 l1 l2 l3 l4 l5 l6 l7 v10 v12 v14 v15
    else
      some σ
def f_X12_layBoxes  (σ : MsSt) (l0 : Nat) (l1 : Int32) (l2 : Nat) : Option (MsSt) :=
  (f_X12_ofBase σ l0 l1 4).bind fun v1 =>
  (f_X12_ofBase σ l0 l1 3).bind fun v2 =>
  (f_X12_marksOf σ l0 l1).bind fun v3 =>
  ms_nm (ms_si σ l2 1 v3) fun s4 =>
  ms_nm (ms_si s4 l2 2 0) fun s5 =>
  ms_nm (ms_si s5 l2 3 v2) fun s6 =>
  ms_nm (ms_si s6 l2 4 v1) fun s7 =>
  ms_nm (ms_si s7 l2 5 0) fun s8 =>
  f_X12_layBoxes_54 ms_fuel s8 l0 l1 l2 v1 v2 v1 0 0
def f_X12_doOverlap_61  (σ : MsSt)  (l1 : Int32) (l2 : Int32) (l4 : Nat) (l5 : Nat) (t0 : Int32) : Option (Int32) :=
  if t0 = 0 then
    some 0
  else
    (ms_ald σ l4 ((4 * l1) + 2)).bind fun v3 =>
    (ms_ald σ l5 ((4 * l2) + 3)).bind fun v4 =>
    if v3 < v4 then
      (ms_ald σ l5 ((4 * l2) + 2)).bind fun v5 =>
      (ms_ald σ l4 ((4 * l1) + 3)).bind fun v6 =>
      if v5 < v6 then
        some 1
      else
        some 0
    else
      some 0
def f_X12_doOverlap_60  (σ : MsSt)  (l1 : Int32) (l2 : Int32) (l4 : Nat) (l5 : Nat) : Option (Int32) :=
  f_X12_doOverlap_61 σ l1 l2 l4 l5 0
def f_X12_doOverlap  (σ : MsSt) (l0 : Nat) (l1 : Int32) (l2 : Int32) (l3 : Int32) : Option (Int32) :=
  (ms_ald σ (ms_rf (ms_rf l0 18) 0) (4 * l1)).bind fun v1 =>
  (ms_ald σ (ms_rf (ms_rf l0 19) 0) ((4 * l2) + 1)).bind fun v2 =>
  if v1 < (v2 + l3) then
    (ms_ald σ (ms_rf (ms_rf l0 19) 0) (4 * l2)).bind fun v7 =>
    (ms_ald σ (ms_rf (ms_rf l0 18) 0) ((4 * l1) + 1)).bind fun v8 =>
    if (v7 + l3) < v8 then
      f_X12_doOverlap_61 σ l1 l2 (ms_rf (ms_rf l0 18) 0) (ms_rf (ms_rf l0 19) 0) 1
    else
      f_X12_doOverlap_60 σ l1 l2 (ms_rf (ms_rf l0 18) 0) (ms_rf (ms_rf l0 19) 0)
  else
    f_X12_doOverlap_60 σ l1 l2 (ms_rf (ms_rf l0 18) 0) (ms_rf (ms_rf l0 19) 0)
def f_X12_isClash_43  (k29 : MsSt → Nat → Int32 → Int32 → Option (Int32 × MsSt)) : Nat → MsSt → Nat → Int32 → Int32 → Int32 → Option (Int32 × MsSt)
  | 0, _, _, _, _, _ => none
  | n + 1, σ, l0, l2, l3, l4 =>
    if l4 < (ms_i σ (ms_rf l0 19) 1) then
      (f_X12_doOverlap σ l0 l3 l4 l2).bind fun v4 =>
      if v4 = 0 then
        (f_X12_isClash_43 k29 n) σ l0 l2 l3 (l4 + 1)
      else
        some (1, σ)
    else
      k29 σ l0 l2 (l3 + 1)
def f_X12_isClash_29   : Nat → MsSt → Nat → Int32 → Int32 → Option (Int32 × MsSt)
  | 0, _, _, _, _ => none
  | n + 1, σ, l0, l2, l3 =>
    if l3 < (ms_i σ (ms_rf l0 18) 1) then
      f_X12_isClash_43 (f_X12_isClash_29 n) ms_fuel σ l0 l2 l3 0
    else
      some (0, σ)
def f_X12_isClash  (σ : MsSt) (l0 : Nat) (l1 : Int32) : Option (Int32 × MsSt) :=
  (f_X12_layBoxes σ l0 l1 (ms_rf l0 18)).bind fun s1 =>
  (f_X12_layBoxes s1 l0 (l1 + 1) (ms_rf l0 19)).bind fun s2 =>
  (f_X12_ofBase s2 l0 l1 3).bind fun v3 =>
  f_X12_isClash_29 ms_fuel s2 l0 v3 0
def f_X12_manyOf_4  (σ : MsSt) : Nat → Nat → Int32 → Int32 → Int32 → Option (Int32)
  | 0, _, _, _, _ => none
  | n + 1, l0, l1, l2, l3 =>
    (ms_ald σ (ms_rf l0 0) 0).bind fun v1 =>
    if l3 < v1 then
      (f_X12_isOfKind σ l0 l3 l1).bind fun v2 =>
      if v2 = 0 then
        (f_X12_manyOf_4 σ n) l0 l1 (l2 + 0) (l3 + 1)
      else
        (f_X12_manyOf_4 σ n) l0 l1 (l2 + 1) (l3 + 1)
    else
      some l2
def f_X12_manyOf  (σ : MsSt) (l0 : Nat) (l1 : Int32) : Option (Int32) :=
  f_X12_manyOf_4 σ ms_fuel l0 l1 0 0
def f_X12_spares_4  (σ : MsSt) : Nat → Nat → Int32 → Int32 → Option (Int32)
  | 0, _, _, _ => none
  | n + 1, l0, l1, l2 =>
    (ms_ald σ (ms_rf l0 0) 0).bind fun v1 =>
    if l2 < v1 then
      (f_X12_isOfKind σ l0 l2 2).bind fun v2 =>
      if v2 = 0 then
        (f_X12_spares_4 σ n) l0 (l1 + 0) (l2 + 1)
      else
        (f_X12_of σ l2 5).bind fun v3 =>
        (ms_ald σ (ms_rf l0 0) v3).bind fun v4 =>
        (f_X12_spares_4 σ n) l0 (l1 + v4) (l2 + 1)
    else
      some l1
def f_X12_spares  (σ : MsSt) (l0 : Nat) : Option (Int32) :=
  f_X12_spares_4 σ ms_fuel l0 0 0
def f_X12_size  (σ : MsSt) (l0 : Nat) (l1 : Int32) : Option (Int32 × MsSt) :=
  ms_nm (ms_si σ l0 7 0) fun s1 =>
  if l1 = 0 then
    (ms_ald s1 (ms_rf l0 0) 0).bind fun v4 =>
    some (v4, s1)
  else
  if l1 = 1 then
    (f_X12_manyOf s1 l0 (l1 - 1)).bind fun v5 =>
    some (v5, s1)
  else
  if l1 = 2 then
    (f_X12_manyOf s1 l0 (l1 - 1)).bind fun v6 =>
    some (v6, s1)
  else
  if l1 = 3 then
    (f_X12_manyOf s1 l0 (l1 - 1)).bind fun v7 =>
    some (v7, s1)
  else
  if l1 = 4 then
    (f_X12_spares s1 l0).bind fun v8 =>
    some (v8, s1)
  else
  if l1 = 5 then
    (ms_ald s1 (ms_rf l0 0) 1).bind fun v9 =>
    some (v9, s1)
  else
  if l1 = 6 then
    (ms_ald s1 (ms_rf l0 0) 2).bind fun v10 =>
    some (v10, s1)
  else
  ms_b2 (f_X12_raise s1 l0 1) fun v2 s3 =>
  some (v2, s3)
def f_X12_linesWith_20  (σ : MsSt) (k4 : Nat → Int32 → Int32 → Int32 → Option (Int32)) : Nat → Nat → Int32 → Int32 → Int32 → Int32 → Int32 → Option (Int32)
  | 0, _, _, _, _, _, _ => none
  | n + 1, l0, l1, l2, l3, l4, l5 =>
    (ms_ald σ (ms_rf l0 0) (3 + l3)).bind fun v2 =>
    if l5 < v2 then
      if l4 = 0 then
        (f_X12_spot σ l3 l5).bind fun v3 =>
        (ms_ald σ (ms_rf l0 0) v3).bind fun v4 =>
        if v4 = l1 then
          (f_X12_linesWith_20 σ k4 n) l0 l1 l2 l3 1 (l5 + 1)
        else
          (f_X12_linesWith_20 σ k4 n) l0 l1 l2 l3 0 (l5 + 1)
      else
        (f_X12_linesWith_20 σ k4 n) l0 l1 l2 l3 1 (l5 + 1)
    else
      if l4 = 0 then
        k4 l0 l1 (l2 + 0) (l3 + 1)
      else
        k4 l0 l1 (l2 + 1) (l3 + 1)
def f_X12_linesWith_4  (σ : MsSt) : Nat → Nat → Int32 → Int32 → Int32 → Option (Int32)
  | 0, _, _, _, _ => none
  | n + 1, l0, l1, l2, l3 =>
    (ms_ald σ (ms_rf l0 0) 1).bind fun v1 =>
    if l3 < v1 then
      f_X12_linesWith_20 σ (f_X12_linesWith_4 σ n) ms_fuel l0 l1 l2 l3 0 0
    else
      some l2
def f_X12_linesWith  (σ : MsSt) (l0 : Nat) (l1 : Int32) : Option (Int32) :=
  f_X12_linesWith_4 σ ms_fuel l0 l1 0 0
def f_X12_sign  (σ : MsSt) (l0 : Nat) (l1 : Int32) (l2 : Int32) : Option (Int32 × MsSt) :=
  ms_b2 (f_X12_noSign σ l0 l1) fun v1 s2 =>
  if v1 = 0 then
    (f_X12_inRange s2 l2.toInt64 0 6).bind fun v3 =>
    if v3 = 0 then
      ms_b2 (f_X12_raise s2 l0 1) fun v11 s12 =>
      some (v11, s12)
    else
      if l2 = 2 then
        (f_X12_parts s2 (ms_rf l0 0) l1).bind fun v10 =>
        some (v10, s2)
      else
        if l2 = 6 then
          (f_X12_isOfKind s2 l0 l1 2).bind fun v6 =>
          if v6 = 0 then
            (f_X12_of s2 l1 l2).bind fun v7 =>
            (ms_ald s2 (ms_rf l0 0) v7).bind fun v8 =>
            some (v8, s2)
          else
            (f_X12_linesWith s2 l0 l1).bind fun v9 =>
            some (v9, s2)
        else
          (f_X12_of s2 l1 l2).bind fun v4 =>
          (ms_ald s2 (ms_rf l0 0) v4).bind fun v5 =>
          some (v5, s2)
  else
    some (0, s2)
def f_X12_letter_18   (σ : MsSt) (l0 : Nat) (l1 : Int32) (l2 : Int32) (t0 : Int32) (t1 : Nat) : Option (Int32 × MsSt) :=
  ms_nm (ms_si σ t1 7 t0) fun s2 =>
  if (ms_i s2 l0 7) = 0 then
    if l2 < 4 then
      (ms_ald s2 (ms_rf l0 4) ((4 * l1) + l2)).bind fun v3 =>
      if v3 = 0 then
        some ((-1), s2)
      else
        some (v3, s2)
    else
      if (0 : Int32) = 0 then
        some ((-1), s2)
      else
        some (0, s2)
  else
    some (0, s2)
def f_X12_letter_17   (σ : MsSt) (l0 : Nat) (l1 : Int32) (l2 : Int32) (t0 : Nat) : Option (Int32 × MsSt) :=
  f_X12_letter_18 σ l0 l1 l2 1 t0
def f_X12_letter  (σ : MsSt) (l0 : Nat) (l1 : Int32) (l2 : Int32) : Option (Int32 × MsSt) :=
  (f_X12_isSign σ l0 l1).bind fun v1 =>
  if v1 = 0 then
    f_X12_letter_17 σ l0 l1 l2 l0
  else
    if l2 < 0 then
      f_X12_letter_17 σ l0 l1 l2 l0
    else
      f_X12_letter_18 σ l0 l1 l2 0 l0
def f_X12_expanded  (σ : MsSt) (l0 : Nat) (l1 : Int32) (l2 : Int32) : Option (Int32 × MsSt) :=
  ms_b2 (f_X12_noSign σ l0 l1) fun v1 s2 =>
  if v1 = 0 then
    ms_b2 (f_X12_expand s2 l0 l1) fun v3 s4 =>
    (f_X12_inRange s4 l2.toInt64 0 ((v3 - 1).toInt64)).bind fun v5 =>
    if v5 = 0 then
      ms_b2 (f_X12_raise s4 l0 1) fun v6 s7 =>
      some (v6, s7)
    else
      (ms_ald s4 (ms_rf l0 9) l2).bind fun v8 =>
      some (v8, s4)
  else
    some (0, s2)
def f_X12_pairOf_22   (σ : MsSt) (l0 : Nat) (l1 : Int32) (l2 : Int32) (t0 : Int32) (t1 : Nat) : Option (Int32 × MsSt) :=
  ms_nm (ms_si σ t1 7 t0) fun s2 =>
  if (ms_i s2 l0 7) = 0 then
    (f_X12_findPair s2 (ms_rf l0 0) l1 l2).bind fun v3 =>
    some (v3, s2)
  else
    some (0, s2)
def f_X12_pairOf_21   (σ : MsSt) (l0 : Nat) (l1 : Int32) (l2 : Int32) (t0 : Nat) : Option (Int32 × MsSt) :=
  f_X12_pairOf_22 σ l0 l1 l2 1 t0
def f_X12_pairOf  (σ : MsSt) (l0 : Nat) (l1 : Int32) (l2 : Int32) : Option (Int32 × MsSt) :=
  (f_X12_isSign σ l0 l1).bind fun v1 =>
  if v1 = 0 then
    f_X12_pairOf_21 σ l0 l1 l2 l0
  else
    (f_X12_isSign σ l0 l2).bind fun v4 =>
    if v4 = 0 then
      f_X12_pairOf_21 σ l0 l1 l2 l0
    else
      f_X12_pairOf_22 σ l0 l1 l2 0 l0
def f_X12_used_50  (k14 : MsSt → Nat → Int32 → Int32 → Int32 → Option (Int32 × MsSt)) : Nat → MsSt → Nat → Int32 → Int32 → Int32 → Int32 → Int32 → Int32 → Option (Int32 × MsSt)
  | 0, _, _, _, _, _, _, _, _ => none
  | n + 1, σ, l0, l1, l2, l3, l4, l5, l6 =>
    if l6 < l5 then
      if l4 = 0 then
        (ms_ald σ (ms_rf l0 9) l6).bind fun v5 =>
        if v5 = l1 then
          (f_X12_used_50 k14 n) σ l0 l1 l2 l3 1 l5 (l6 + 1)
        else
          (f_X12_used_50 k14 n) σ l0 l1 l2 l3 0 l5 (l6 + 1)
      else
        (f_X12_used_50 k14 n) σ l0 l1 l2 l3 1 l5 (l6 + 1)
    else
      if l4 = 0 then
        k14 σ l0 l1 (l2 + 0) (l3 + 1)
      else
        k14 σ l0 l1 (l2 + 1) (l3 + 1)
def f_X12_used_14   : Nat → MsSt → Nat → Int32 → Int32 → Int32 → Option (Int32 × MsSt)
  | 0, _, _, _, _, _ => none
  | n + 1, σ, l0, l1, l2, l3 =>
    (ms_ald σ (ms_rf l0 0) 0).bind fun v3 =>
    if l3 < v3 then
      (f_X12_isOfKind σ l0 l3 2).bind fun v4 =>
      if v4 = 0 then
        f_X12_used_50 (f_X12_used_14 n) ms_fuel σ l0 l1 l2 l3 0 0 0
      else
        ms_b2 (f_X12_expand σ l0 l3) fun v6 s7 =>
        f_X12_used_50 (f_X12_used_14 n) ms_fuel s7 l0 l1 l2 l3 0 v6 0
    else
      some (l2, σ)
def f_X12_used  (σ : MsSt) (l0 : Nat) (l1 : Int32) : Option (Int32 × MsSt) :=
  ms_b2 (f_X12_noSign σ l0 l1) fun v1 s2 =>
  if v1 = 0 then
    f_X12_used_14 ms_fuel s2 l0 l1 0 0
  else
    some (0, s2)
def f_X12_recomposed  (σ : MsSt) (l0 : Nat) (l1 : Int32) : Option (Int32 × MsSt) :=
  ms_b2 (f_X12_noSign σ l0 l1) fun v1 s2 =>
  if v1 = 0 then
    ms_nm (ms_si s2 l0 11 0) fun s3 =>
    (f_X12_addExpanded s3 l0 l1).bind fun s4 =>
    (f_X12_layComposed s4 l0).bind fun s5 =>
    (ms_ald s5 (ms_rf l0 13) 0).bind fun v6 =>
    some (v6, s5)
  else
    some (0, s2)
def f_X12_widths  (σ : MsSt) (l0 : Nat) : Option (Int32) :=
  (f_X12_penOf σ l0 (ms_i σ l0 17)).bind fun v1 =>
  some v1
def f_X12_crowns_4   : Nat → MsSt → Nat → Int32 → Int32 → Option (Int32 × MsSt)
  | 0, _, _, _, _ => none
  | n + 1, σ, l0, l1, l2 =>
    if l2 < (ms_i σ l0 17) then
      (f_X12_layBoxes σ l0 l2 (ms_rf l0 18)).bind fun s1 =>
      if l2 = 0 then
        (f_X12_crowns_4 n) s1 l0 (ms_i s1 (ms_rf l0 18) 4) (l2 + 1)
      else
        (f_X12_crowns_4 n) s1 l0 (if l1 < (ms_i s1 (ms_rf l0 18) 4) then (ms_i s1 (ms_rf l0 18) 4) else l1) (l2 + 1)
    else
      some (l1, σ)
def f_X12_crowns  (σ : MsSt) (l0 : Nat) : Option (Int32 × MsSt) :=
  f_X12_crowns_4 ms_fuel σ l0 0 0
def f_X12_feet_4   : Nat → MsSt → Nat → Int32 → Int32 → Option (Int32 × MsSt)
  | 0, _, _, _, _ => none
  | n + 1, σ, l0, l1, l2 =>
    if l2 < (ms_i σ l0 17) then
      (f_X12_layBoxes σ l0 l2 (ms_rf l0 18)).bind fun s1 =>
      (f_X12_feet_4 n) s1 l0 (if (ms_i s1 (ms_rf l0 18) 5) < l1 then (ms_i s1 (ms_rf l0 18) 5) else l1) (l2 + 1)
    else
      some (l1, σ)
def f_X12_feet  (σ : MsSt) (l0 : Nat) : Option (Int32 × MsSt) :=
  f_X12_feet_4 ms_fuel σ l0 0 0
def f_X12_clashesOf_4   : Nat → MsSt → Nat → Int32 → Int32 → Option (Int32 × MsSt)
  | 0, _, _, _, _ => none
  | n + 1, σ, l0, l1, l2 =>
    if l2 < ((ms_i σ l0 17) - 1) then
      ms_b2 (f_X12_isClash σ l0 l2) fun v1 s2 =>
      if v1 = 0 then
        (f_X12_clashesOf_4 n) s2 l0 (l1 + 0) (l2 + 1)
      else
        (f_X12_clashesOf_4 n) s2 l0 (l1 + 1) (l2 + 1)
    else
      some (l1, σ)
def f_X12_clashesOf  (σ : MsSt) (l0 : Nat) : Option (Int32 × MsSt) :=
  f_X12_clashesOf_4 ms_fuel σ l0 0 0
def f_X12_line  (σ : MsSt) (l0 : Nat) (l1 : Int32) (l2 : Int32) : Option (Int32 × MsSt) :=
  ms_b2 (f_X12_noLine σ l0 l1) fun v1 s2 =>
  if v1 = 0 then
    (f_X12_layClusters s2 l0 l1).bind fun s3 =>
    (f_X12_layComposed s3 l0).bind fun s4 =>
    if l2 = 0 then
      (ms_ald s4 (ms_rf l0 0) (3 + l1)).bind fun v7 =>
      some (v7, s4)
    else
    if l2 = 1 then
      some ((ms_i s4 l0 11), s4)
    else
    if l2 = 2 then
      some ((ms_i s4 l0 15), s4)
    else
    if l2 = 3 then
      some ((ms_i s4 l0 12), s4)
    else
    if l2 = 4 then
      some ((ms_i s4 l0 17), s4)
    else
    if l2 = 5 then
      (f_X12_widths s4 l0).bind fun v8 =>
      some (v8, s4)
    else
    if l2 = 6 then
      ms_b2 (f_X12_crowns s4 l0) fun v9 s10 =>
      some (v9, s10)
    else
    if l2 = 7 then
      ms_b2 (f_X12_feet s4 l0) fun v11 s12 =>
      some (v11, s12)
    else
    if l2 = 8 then
      ms_b2 (f_X12_clashesOf s4 l0) fun v13 s14 =>
      some (v13, s14)
    else
    ms_b2 (f_X12_raise s4 l0 1) fun v5 s6 =>
    some (v5, s6)
  else
    some (0, s2)
def f_X12_manyIn  (σ : MsSt) (l0 : Nat) (l1 : Int32) (l2 : Int32) : Option (Int32) :=
  if l2 = 0 then
    (ms_ald σ (ms_rf l0 0) (3 + l1)).bind fun v1 =>
    some v1
  else
    if l2 = 1 then
      some (ms_i σ l0 11)
    else
      some (ms_i σ l0 15)
def f_X12_signIn  (σ : MsSt) (l0 : Nat) (l1 : Int32) (l2 : Int32) (l3 : Int32) : Option (Int32) :=
  if l2 = 0 then
    (f_X12_spot σ l1 l3).bind fun v3 =>
    (ms_ald σ (ms_rf l0 0) v3).bind fun v4 =>
    some v4
  else
    if l2 = 1 then
      (ms_ald σ (ms_rf l0 10) l3).bind fun v2 =>
      some v2
    else
      (ms_ald σ (ms_rf l0 13) l3).bind fun v1 =>
      some v1
def f_X12_at  (σ : MsSt) (l0 : Nat) (l1 : Int32) (l2 : Int32) (l3 : Int32) : Option (Int32 × MsSt) :=
  ms_b2 (f_X12_noLine σ l0 l1) fun v1 s2 =>
  if v1 = 0 then
    (f_X12_layForms s2 l0 l1).bind fun s3 =>
    (f_X12_inRange s3 l2.toInt64 0 2).bind fun v4 =>
    if v4 = 0 then
      ms_b2 (f_X12_raise s3 l0 1) fun v5 s6 =>
      some (v5, s6)
    else
      (f_X12_manyIn s3 l0 l1 l2).bind fun v7 =>
      (f_X12_inRange s3 l3.toInt64 0 ((v7 - 1).toInt64)).bind fun v8 =>
      if v8 = 0 then
        ms_b2 (f_X12_raise s3 l0 1) fun v9 s10 =>
        some (v9, s10)
      else
        (f_X12_signIn s3 l0 l1 l2 l3).bind fun v11 =>
        some (v11, s3)
  else
    some (0, s2)
def f_X12_unlike_51   : Nat → MsSt → Nat → Int32 → Int32 → Int32 → Int32 → Int32 → Option (Int32 × MsSt)
  | 0, _, _, _, _, _, _, _ => none
  | n + 1, σ, l0, l1, l2, l3, l4, l5 =>
    if l5 < (if l4 < l3 then l4 else l3) then
      (f_X12_signIn σ l0 l1 0 l5).bind fun v7 =>
      (f_X12_signIn σ l0 l1 l2 l5).bind fun v8 =>
      if v7 = v8 then
        (f_X12_unlike_51 n) σ l0 l1 l2 l3 l4 (l5 + 1)
      else
        some (l5, σ)
    else
      if l3 = l4 then
        some ((-1), σ)
      else
        some ((if l4 < l3 then l4 else l3), σ)
def f_X12_unlike  (σ : MsSt) (l0 : Nat) (l1 : Int32) (l2 : Int32) : Option (Int32 × MsSt) :=
  ms_b2 (f_X12_noLine σ l0 l1) fun v1 s2 =>
  if v1 = 0 then
    (f_X12_inRange s2 l2.toInt64 1 2).bind fun v3 =>
    if v3 = 0 then
      ms_b2 (f_X12_raise s2 l0 1) fun v9 s10 =>
      some (v9, s10)
    else
      (f_X12_layForms s2 l0 l1).bind fun s4 =>
      (f_X12_manyIn s4 l0 l1 0).bind fun v5 =>
      (f_X12_manyIn s4 l0 l1 l2).bind fun v6 =>
      f_X12_unlike_51 ms_fuel s4 l0 l1 l2 v5 v6 0
  else
    some (0, s2)
def f_X12_clusterAt_34  (σ : MsSt) (k5 : Nat → Int32 → Int32 → Int32 → Int32 → Option (Int32)) (l0 : Nat) (l1 : Int32) (l2 : Int32) (l3 : Int32) (l4 : Int32) (t0 : Int32) : Option (Int32) :=
  if t0 = 0 then
    if l3 = (-1) then
      k5 l0 l1 l2 (l3 + 1) (l4 + 1)
    else
      k5 l0 l1 l2 l3 (l4 + 1)
  else
    k5 l0 l1 l2 (l3 + 1) (l4 + 1)
def f_X12_clusterAt_5  (σ : MsSt) : Nat → Nat → Int32 → Int32 → Int32 → Int32 → Option (Int32)
  | 0, _, _, _, _, _ => none
  | n + 1, l0, l1, l2, l3, l4 =>
    if l2 < l4 then
      some l3
    else
      (f_X12_spot σ l1 l4).bind fun v1 =>
      (ms_ald σ (ms_rf l0 0) v1).bind fun v2 =>
      (f_X12_isMark σ l0 v2).bind fun v3 =>
      if v3 = 0 then
        f_X12_clusterAt_34 σ (f_X12_clusterAt_5 σ n) l0 l1 l2 l3 l4 1
      else
        f_X12_clusterAt_34 σ (f_X12_clusterAt_5 σ n) l0 l1 l2 l3 l4 0
def f_X12_clusterAt  (σ : MsSt) (l0 : Nat) (l1 : Int32) (l2 : Int32) : Option (Int32) :=
  f_X12_clusterAt_5 σ ms_fuel l0 l1 l2 (-1) 0
def f_X12_clusterOf_15   (σ : MsSt) (l0 : Nat) (l1 : Int32) (l2 : Int32) (t0 : Int32) (t1 : Nat) : Option (Int32 × MsSt) :=
  ms_nm (ms_si σ t1 7 t0) fun s2 =>
  if (ms_i s2 l0 7) = 0 then
    (f_X12_clusterAt s2 l0 l1 l2).bind fun v3 =>
    some (v3, s2)
  else
    some (0, s2)
def f_X12_clusterOf  (σ : MsSt) (l0 : Nat) (l1 : Int32) (l2 : Int32) : Option (Int32 × MsSt) :=
  (f_X12_isPlace σ l0 l1 l2).bind fun v1 =>
  if v1 = 0 then
    f_X12_clusterOf_15 σ l0 l1 l2 1 l0
  else
    f_X12_clusterOf_15 σ l0 l1 l2 0 l0
def f_X12_composedOf_8   : Nat → MsSt → Nat → Int32 → Int32 → Int32 → Option (Int32 × MsSt)
  | 0, _, _, _, _, _ => none
  | n + 1, σ, l0, l1, l2, l3 =>
    if l3 < (ms_i σ l0 15) then
      (ms_ald σ (ms_rf l0 14) l3).bind fun v2 =>
      if v2 = l1 then
        (f_X12_composedOf_8 n) σ l0 l1 (l2 + 1) (l3 + 1)
      else
        (f_X12_composedOf_8 n) σ l0 l1 (l2 + 0) (l3 + 1)
    else
      some (l2, σ)
def f_X12_composedOf  (σ : MsSt) (l0 : Nat) (l1 : Int32) : Option (Int32 × MsSt) :=
  (f_X12_layComposed σ l0).bind fun s1 =>
  f_X12_composedOf_8 ms_fuel s1 l0 l1 0 0
def f_X12_cluster  (σ : MsSt) (l0 : Nat) (l1 : Int32) (l2 : Int32) (l3 : Int32) : Option (Int32 × MsSt) :=
  ms_b2 (f_X12_noCluster σ l0 l1 l2) fun v1 s2 =>
  if v1 = 0 then
    (f_X12_layBoxes s2 l0 l2 (ms_rf l0 18)).bind fun s3 =>
    if l3 = 0 then
      (f_X12_baseOf s3 l0 l2).bind fun v6 =>
      some (v6, s3)
    else
    if l3 = 1 then
      (f_X12_marksOf s3 l0 l2).bind fun v7 =>
      some (v7, s3)
    else
    if l3 = 2 then
      (ms_ald s3 (ms_rf l0 16) l2).bind fun v8 =>
      some (v8, s3)
    else
    if l3 = 3 then
      (f_X12_penOf s3 l0 l2).bind fun v9 =>
      some (v9, s3)
    else
    if l3 = 4 then
      some ((ms_i s3 (ms_rf l0 18) 2), s3)
    else
    if l3 = 5 then
      some ((ms_i s3 (ms_rf l0 18) 3), s3)
    else
    if l3 = 6 then
      some ((ms_i s3 (ms_rf l0 18) 4), s3)
    else
    if l3 = 7 then
      some ((ms_i s3 (ms_rf l0 18) 5), s3)
    else
    if l3 = 8 then
      ms_b2 (f_X12_composedOf s3 l0 l2) fun v10 s11 =>
      some (v10, s11)
    else
    ms_b2 (f_X12_raise s3 l0 1) fun v4 s5 =>
    some (v4, s5)
  else
    some (0, s2)
def f_X12_box  (σ : MsSt) (l0 : Nat) (l1 : Int32) (l2 : Int32) (l3 : Int32) (l4 : Int32) : Option (Int32 × MsSt) :=
  ms_b2 (f_X12_noCluster σ l0 l1 l2) fun v1 s2 =>
  if v1 = 0 then
    (f_X12_marksOf s2 l0 l2).bind fun v3 =>
    (f_X12_inRange s2 l3.toInt64 0 ((v3 - 1).toInt64)).bind fun v4 =>
    if v4 = 0 then
      ms_b2 (f_X12_raise s2 l0 1) fun v5 s6 =>
      some (v5, s6)
    else
      (f_X12_inRange s2 l4.toInt64 0 4).bind fun v7 =>
      if v7 = 0 then
        ms_b2 (f_X12_raise s2 l0 1) fun v12 s13 =>
        some (v12, s13)
      else
        (f_X12_layBoxes s2 l0 l2 (ms_rf l0 18)).bind fun s8 =>
        if l4 = 0 then
          (f_X12_firstMark s8 l0 l2).bind fun v10 =>
          (ms_ald s8 (ms_rf l0 10) (v10 + l3)).bind fun v11 =>
          some (v11, s8)
        else
          (ms_ald s8 (ms_rf (ms_rf l0 18) 0) (((4 * l3) + l4) - 1)).bind fun v9 =>
          some (v9, s8)
  else
    some (0, s2)
def f_X12_spellings_120  (k36 : MsSt → Nat → Int32 → Int32 → Int64 → Int32 → Int32 → Option (Int64 × MsSt)) (σ : MsSt) (l0 : Nat) (l2 : Int32) (l3 : Int32) (l4 : Int64) (l7 : Int32) (t0 : Int32) : Option (Int64 × MsSt) :=
  (ms_ldiv (l4 * ((l7 + 1).toInt64)) t0.toInt64).bind fun v6 =>
  k36 σ l0 l2 l3 v6 t0 (l7 + 1)
def f_X12_spellings_105  (k36 : MsSt → Nat → Int32 → Int32 → Int64 → Int32 → Int32 → Option (Int64 × MsSt)) (σ : MsSt) (l0 : Nat) (l2 : Int32) (l3 : Int32) (l4 : Int64) (l6 : Int32) (l7 : Int32) (t0 : Int32) : Option (Int64 × MsSt) :=
  if t0 = 0 then
    f_X12_spellings_120 k36 σ l0 l2 l3 l4 l7 1
  else
    f_X12_spellings_120 k36 σ l0 l2 l3 l4 l7 (l6 + 1)
def f_X12_spellings_104  (k36 : MsSt → Nat → Int32 → Int32 → Int64 → Int32 → Int32 → Option (Int64 × MsSt)) (σ : MsSt) (l0 : Nat) (l2 : Int32) (l3 : Int32) (l4 : Int64) (l6 : Int32) (l7 : Int32) : Option (Int64 × MsSt) :=
  f_X12_spellings_105 k36 σ l0 l2 l3 l4 l6 l7 0
def f_X12_spellings_36   : Nat → MsSt → Nat → Int32 → Int32 → Int64 → Int32 → Int32 → Option (Int64 × MsSt)
  | 0, _, _, _, _, _, _, _ => none
  | n + 1, σ, l0, l2, l3, l4, l6, l7 =>
    if l7 < l3 then
      (f_X12_firstMark σ l0 l2).bind fun v4 =>
      (ms_ald σ (ms_rf l0 10) (v4 + l7)).bind fun v5 =>
      if 0 < l7 then
        (f_X12_firstMark σ l0 l2).bind fun v7 =>
        (ms_ald σ (ms_rf l0 10) ((v7 + l7) - 1)).bind fun v8 =>
        (f_X12_of σ v8 1).bind fun v9 =>
        (ms_ald σ (ms_rf l0 0) v9).bind fun v10 =>
        (f_X12_of σ v5 1).bind fun v11 =>
        (ms_ald σ (ms_rf l0 0) v11).bind fun v12 =>
        if v10 = v12 then
          f_X12_spellings_105 (f_X12_spellings_36 n) σ l0 l2 l3 l4 l6 l7 1
        else
          f_X12_spellings_104 (f_X12_spellings_36 n) σ l0 l2 l3 l4 l6 l7
      else
        f_X12_spellings_104 (f_X12_spellings_36 n) σ l0 l2 l3 l4 l6 l7
    else
      some (l4, σ)
def f_X12_spellings  (σ : MsSt) (l0 : Nat) (l1 : Int32) (l2 : Int32) : Option (Int64 × MsSt) :=
  ms_b2 (f_X12_noCluster σ l0 l1 l2) fun v1 s2 =>
  if v1 = 0 then
    (f_X12_marksOf s2 l0 l2).bind fun v3 =>
    if 18 < v3 then
      some ((-2), s2)
    else
      f_X12_spellings_36 ms_fuel s2 l0 l2 v3 1 0 0
  else
    some (0, s2)
def f_X12_clashes_25   (σ : MsSt) (l0 : Nat) (l2 : Int32) (t0 : Int32) (t1 : Nat) : Option (Int32 × MsSt) :=
  ms_nm (ms_si σ t1 7 t0) fun s3 =>
  if (ms_i s3 l0 7) = 0 then
    ms_b2 (f_X12_isClash s3 l0 l2) fun v4 s5 =>
    if v4 = 0 then
      some (0, s5)
    else
      some (1, s5)
  else
    some (0, s3)
def f_X12_clashes_24   (σ : MsSt) (l0 : Nat) (l2 : Int32) (t0 : Nat) : Option (Int32 × MsSt) :=
  f_X12_clashes_25 σ l0 l2 1 t0
def f_X12_clashes  (σ : MsSt) (l0 : Nat) (l1 : Int32) (l2 : Int32) : Option (Int32 × MsSt) :=
  ms_b2 (f_X12_isCluster σ l0 l1 l2) fun v1 s2 =>
  if v1 = 0 then
    f_X12_clashes_24 s2 l0 l2 l0
  else
    if l2 < ((ms_i s2 l0 17) - 1) then
      f_X12_clashes_25 s2 l0 l2 0 l0
    else
      f_X12_clashes_24 s2 l0 l2 l0
def f_X12_fullest_19   : Nat → MsSt → Nat → Int32 → Int32 → Option (Int32 × MsSt)
  | 0, _, _, _, _ => none
  | n + 1, σ, l0, l2, l3 =>
    if l3 < (ms_i σ l0 17) then
      if l2 = (-1) then
        (f_X12_fullest_19 n) σ l0 l3 (l3 + 1)
      else
        (f_X12_marksOf σ l0 l3).bind fun v4 =>
        (f_X12_marksOf σ l0 l2).bind fun v5 =>
        if v5 < v4 then
          (f_X12_fullest_19 n) σ l0 l3 (l3 + 1)
        else
          (f_X12_fullest_19 n) σ l0 l2 (l3 + 1)
    else
      some (l2, σ)
def f_X12_fullest  (σ : MsSt) (l0 : Nat) (l1 : Int32) : Option (Int32 × MsSt) :=
  ms_b2 (f_X12_noLine σ l0 l1) fun v1 s2 =>
  if v1 = 0 then
    (f_X12_layClusters s2 l0 l1).bind fun s3 =>
    f_X12_fullest_19 ms_fuel s3 l0 (-1) 0
  else
    some (0, s2)
def f_X12_layTwo_51   : Nat → MsSt → Nat → Int32 → Int32 → Option (MsSt)
  | 0, _, _, _, _ => none
  | n + 1, σ, l0, l1, l3 =>
    if (ms_i σ l0 17) < l3 then
      (f_X12_layClusters σ l0 l1).bind fun s4 =>
      some s4
    else
      (ms_ald σ (ms_rf l0 16) l3).bind fun v5 =>
      (ms_ast σ (ms_rf l0 21) l3 v5).bind fun s6 =>
      (f_X12_layTwo_51 n) s6 l0 l1 (l3 + 1)
def f_X12_layTwo_23   : Nat → MsSt → Nat → Int32 → Int32 → Option (MsSt)
  | 0, _, _, _, _ => none
  | n + 1, σ, l0, l1, l3 =>
    if l3 < (ms_i σ l0 11) then
      (ms_ald σ (ms_rf l0 10) l3).bind fun v7 =>
      (ms_ast σ (ms_rf l0 20) l3 v7).bind fun s8 =>
      (f_X12_layTwo_23 n) s8 l0 l1 (l3 + 1)
    else
      f_X12_layTwo_51 ms_fuel σ l0 l1 0
def f_X12_layTwo  (σ : MsSt) (l0 : Nat) (l1 : Int32) (l2 : Int32) : Option (MsSt) :=
  (f_X12_layClusters σ l0 l2).bind fun s1 =>
  ms_nm (ms_si s1 l0 22 (ms_i s1 l0 11)) fun s2 =>
  ms_nm (ms_si s2 l0 23 (ms_i s2 l0 17)) fun s3 =>
  f_X12_layTwo_23 ms_fuel s3 l0 l1 0
def f_X12_compare_81   (σ : MsSt) (t0 : Int32) : Option (Int32 × MsSt) :=
  if t0 < 0 then
    some ((-1), σ)
  else
    if 0 < t0 then
      some (1, σ)
    else
      some (0, σ)
def f_X12_compare_64   (σ : MsSt) (l0 : Nat) (l3 : Int32) : Option (Int32 × MsSt) :=
  if l3 = 0 then
    f_X12_compare_81 σ ((ms_i σ l0 11) - (ms_i σ l0 22))
  else
    f_X12_compare_81 σ l3
def f_X12_compare_22   : Nat → MsSt → Nat → Int32 → Int32 → Option (Int32 × MsSt)
  | 0, _, _, _, _ => none
  | n + 1, σ, l0, l3, l4 =>
    if l4 < (if (ms_i σ l0 22) < (ms_i σ l0 11) then (ms_i σ l0 22) else (ms_i σ l0 11)) then
      if l3 = 0 then
        (ms_ald σ (ms_rf l0 10) l4).bind fun v4 =>
        (ms_ald σ (ms_rf l0 20) l4).bind fun v5 =>
        (f_X12_compare_22 n) σ l0 (v4 - v5) (l4 + 1)
      else
        f_X12_compare_64 σ l0 l3
    else
      f_X12_compare_64 σ l0 l3
def f_X12_compare  (σ : MsSt) (l0 : Nat) (l1 : Int32) (l2 : Int32) : Option (Int32 × MsSt) :=
  ms_b2 (f_X12_noTwoLines σ l0 l1 l2) fun v1 s2 =>
  if v1 = 0 then
    (f_X12_layTwo s2 l0 l1 l2).bind fun s3 =>
    f_X12_compare_22 ms_fuel s3 l0 0 0
  else
    some (0, s2)
def f_X12_otherBase  (σ : MsSt) (l0 : Nat) (l1 : Int32) : Option (Int32) :=
  (ms_ald σ (ms_rf l0 21) l1).bind fun v1 =>
  (ms_ald σ (ms_rf l0 20) v1).bind fun v2 =>
  (f_X12_isMark σ l0 v2).bind fun v3 =>
  if v3 = 0 then
    some v2
  else
    some (-1)
def f_X12_areBare_37   : Nat → MsSt → Nat → Int32 → Int32 → Option (Int32 × MsSt)
  | 0, _, _, _, _ => none
  | n + 1, σ, l0, l3, l4 =>
    if l4 < (ms_i σ l0 17) then
      if l3 = 0 then
        (ms_bz l3).bind fun v5 =>
        some (v5, σ)
      else
        (f_X12_baseOf σ l0 l4).bind fun v6 =>
        (f_X12_otherBase σ l0 l4).bind fun v7 =>
        if v6 = v7 then
          (f_X12_areBare_37 n) σ l0 1 (l4 + 1)
        else
          (f_X12_areBare_37 n) σ l0 0 (l4 + 1)
    else
      (ms_bz l3).bind fun v4 =>
      some (v4, σ)
def f_X12_areBare  (σ : MsSt) (l0 : Nat) (l1 : Int32) (l2 : Int32) : Option (Int32 × MsSt) :=
  ms_b2 (f_X12_noTwoLines σ l0 l1 l2) fun v1 s2 =>
  if v1 = 0 then
    (f_X12_layTwo s2 l0 l1 l2).bind fun s3 =>
    if (ms_i s3 l0 17) = (ms_i s3 l0 23) then
      f_X12_areBare_37 ms_fuel s3 l0 1 0
    else
      f_X12_areBare_37 ms_fuel s3 l0 0 0
  else
    some (0, s2)
def f_X12_isSameCluster_45  (σ : MsSt) : Nat → Nat → Int32 → Int32 → Int32 → Int32 → Int32 → Option (Int32)
  | 0, _, _, _, _, _, _ => none
  | n + 1, l0, l1, l2, l3, l4, l5 =>
    if l5 < l3 then
      if l4 = 0 then
        (ms_bz l4).bind fun v6 =>
        some v6
      else
        (ms_ald σ (ms_rf l0 16) l1).bind fun v7 =>
        (ms_ald σ (ms_rf l0 10) (v7 + l5)).bind fun v8 =>
        (ms_ald σ (ms_rf l0 21) l2).bind fun v9 =>
        (ms_ald σ (ms_rf l0 20) (v9 + l5)).bind fun v10 =>
        if v8 = v10 then
          (f_X12_isSameCluster_45 σ n) l0 l1 l2 l3 1 (l5 + 1)
        else
          (f_X12_isSameCluster_45 σ n) l0 l1 l2 l3 0 (l5 + 1)
    else
      (ms_bz l4).bind fun v5 =>
      some v5
def f_X12_isSameCluster  (σ : MsSt) (l0 : Nat) (l1 : Int32) (l2 : Int32) : Option (Int32) :=
  (ms_ald σ (ms_rf l0 16) (l1 + 1)).bind fun v1 =>
  (ms_ald σ (ms_rf l0 16) l1).bind fun v2 =>
  (ms_ald σ (ms_rf l0 21) (l2 + 1)).bind fun v3 =>
  (ms_ald σ (ms_rf l0 21) l2).bind fun v4 =>
  if (v1 - v2) = (v3 - v4) then
    f_X12_isSameCluster_45 σ ms_fuel l0 l1 l2 (v1 - v2) 1 0
  else
    f_X12_isSameCluster_45 σ ms_fuel l0 l1 l2 (v1 - v2) 0 0
def f_X12_isMatch_22  (σ : MsSt) : Nat → Nat → Int32 → Int32 → Int32 → Int32 → Option (Int32)
  | 0, _, _, _, _, _ => none
  | n + 1, l0, l1, l2, l3, l4 =>
    if l4 < (ms_i σ l0 23) then
      if l3 = 0 then
        (ms_bz l3).bind fun v2 =>
        some v2
      else
        if l2 = 0 then
          (f_X12_isSameCluster σ l0 (l1 + l4) l4).bind fun v3 =>
          (f_X12_isMatch_22 σ n) l0 l1 l2 v3 (l4 + 1)
        else
          (f_X12_baseOf σ l0 (l1 + l4)).bind fun v4 =>
          (f_X12_otherBase σ l0 l4).bind fun v5 =>
          if v4 = v5 then
            (f_X12_isMatch_22 σ n) l0 l1 l2 1 (l4 + 1)
          else
            (f_X12_isMatch_22 σ n) l0 l1 l2 0 (l4 + 1)
    else
      (ms_bz l3).bind fun v1 =>
      some v1
def f_X12_isMatch  (σ : MsSt) (l0 : Nat) (l1 : Int32) (l2 : Int32) : Option (Int32) :=
  if (ms_i σ l0 17) < (l1 + (ms_i σ l0 23)) then
    f_X12_isMatch_22 σ ms_fuel l0 l1 l2 0 0
  else
    f_X12_isMatch_22 σ ms_fuel l0 l1 l2 1 0
def f_X12_noPattern_32   (σ : MsSt) (l0 : Nat) (t0 : Nat) : Option (Int32 × MsSt) :=
  ms_nm (ms_si σ t0 7 1) fun s2 =>
  if (ms_i s2 l0 7) = 0 then
    some (0, s2)
  else
    some (1, s2)
def f_X12_noPattern  (σ : MsSt) (l0 : Nat) (l1 : Int32) (l2 : Int32) : Option (Int32 × MsSt) :=
  (f_X12_isLine σ l0 l1).bind fun v1 =>
  if v1 = 0 then
    f_X12_noPattern_32 σ l0 l0
  else
    (f_X12_isLine σ l0 l2).bind fun v3 =>
    if v3 = 0 then
      f_X12_noPattern_32 σ l0 l0
    else
      (ms_ald σ (ms_rf l0 0) (3 + l2)).bind fun v4 =>
      if 0 < v4 then
        ms_nm (ms_si σ l0 7 0) fun s5 =>
        if (ms_i s5 l0 7) = 0 then
          some (0, s5)
        else
          some (1, s5)
      else
        f_X12_noPattern_32 σ l0 l0
def f_X12_matches_23   : Nat → MsSt → Nat → Int32 → Int32 → Int32 → Option (Int32 × MsSt)
  | 0, _, _, _, _, _ => none
  | n + 1, σ, l0, l3, l4, l5 =>
    if l5 < (ms_i σ l0 17) then
      (f_X12_isMatch σ l0 l5 l3).bind fun v4 =>
      if v4 = 0 then
        (f_X12_matches_23 n) σ l0 l3 (l4 + 0) (l5 + 1)
      else
        (f_X12_matches_23 n) σ l0 l3 (l4 + 1) (l5 + 1)
    else
      some (l4, σ)
def f_X12_matches  (σ : MsSt) (l0 : Nat) (l1 : Int32) (l2 : Int32) (l3 : Int32) : Option (Int32 × MsSt) :=
  ms_b2 (f_X12_noPattern σ l0 l1 l2) fun v1 s2 =>
  if v1 = 0 then
    (f_X12_layTwo s2 l0 l1 l2).bind fun s3 =>
    f_X12_matches_23 ms_fuel s3 l0 l3 0 0
  else
    some (0, s2)
def f_X12_match_24   : Nat → MsSt → Nat → Int32 → Int32 → Int32 → Option (Int32 × MsSt)
  | 0, _, _, _, _, _ => none
  | n + 1, σ, l0, l3, l5, l6 =>
    if l6 < (ms_i σ l0 17) then
      if l5 < 0 then
        ms_b2 (f_X12_raise σ l0 1) fun v6 s7 =>
        some (v6, s7)
      else
        (f_X12_isMatch σ l0 l6 l3).bind fun v8 =>
        if v8 = 0 then
          (f_X12_match_24 n) σ l0 l3 l5 (l6 + 1)
        else
          if l5 = 0 then
            some (l6, σ)
          else
            (f_X12_match_24 n) σ l0 l3 (l5 + (-1)) (l6 + 1)
    else
      ms_b2 (f_X12_raise σ l0 1) fun v4 s5 =>
      some (v4, s5)
def f_X12_match  (σ : MsSt) (l0 : Nat) (l1 : Int32) (l2 : Int32) (l3 : Int32) (l4 : Int32) : Option (Int32 × MsSt) :=
  ms_b2 (f_X12_noPattern σ l0 l1 l2) fun v1 s2 =>
  if v1 = 0 then
    (f_X12_layTwo s2 l0 l1 l2).bind fun s3 =>
    f_X12_match_24 ms_fuel s3 l0 l3 l4 0
  else
    some (0, s2)
def f_X12_saved_31   (σ : MsSt) (l0 : Nat) (l1 : Int32) (l2 : Int32) (t0 : Int32) (t1 : Nat) : Option (Int32 × MsSt) :=
  ms_nm (ms_si σ t1 7 t0) fun s2 =>
  if (ms_i s2 l0 7) = 0 then
    (f_X12_layForms s2 l0 l1).bind fun s3 =>
    (f_X12_of s3 l2 5).bind fun v4 =>
    (ms_ald s3 (ms_rf l0 0) v4).bind fun v5 =>
    (f_X12_of s3 l2 5).bind fun v6 =>
    (ms_ast s3 (ms_rf l0 0) v6 0).bind fun s7 =>
    (f_X12_layComposed s7 l0).bind fun s8 =>
    (f_X12_of s8 l2 5).bind fun v9 =>
    (ms_ast s8 (ms_rf l0 0) v9 v5).bind fun s10 =>
    some (((ms_i s3 l0 15) - (ms_i s10 l0 15)), s10)
  else
    some (0, s2)
def f_X12_saved_30   (σ : MsSt) (l0 : Nat) (l1 : Int32) (l2 : Int32) (t0 : Nat) : Option (Int32 × MsSt) :=
  f_X12_saved_31 σ l0 l1 l2 1 t0
def f_X12_saved  (σ : MsSt) (l0 : Nat) (l1 : Int32) (l2 : Int32) : Option (Int32 × MsSt) :=
  (f_X12_isLine σ l0 l1).bind fun v1 =>
  if v1 = 0 then
    f_X12_saved_30 σ l0 l1 l2 l0
  else
    (f_X12_isSign σ l0 l2).bind fun v11 =>
    if v11 = 0 then
      f_X12_saved_30 σ l0 l1 l2 l0
    else
      (f_X12_isOfKind σ l0 l2 2).bind fun v12 =>
      if v12 = 0 then
        f_X12_saved_30 σ l0 l1 l2 l0
      else
        f_X12_saved_31 σ l0 l1 l2 0 l0
def f_X12_mayHave_2  (σ : MsSt) : Nat → Nat → Int32 → Int32 → Int32 → Option (Int32)
  | 0, _, _, _, _ => none
  | n + 1, l0, l1, l2, l3 =>
    (ms_ald σ (ms_rf l0 0) 0).bind fun v1 =>
    if l3 < v1 then
      if l3 = l1 then
        (f_X12_mayHave_2 σ n) l0 l1 l2 (l3 + 1)
      else
        (f_X12_isMark σ l0 l3).bind fun v2 =>
        if v2 = 0 then
          (f_X12_mayHave_2 σ n) l0 l1 l2 (l3 + 1)
        else
          (f_X12_of σ l3 1).bind fun v3 =>
          (ms_ald σ (ms_rf l0 0) v3).bind fun v4 =>
          if v4 = l2 then
            (f_X12_of σ l3 6).bind fun v5 =>
            (ms_ald σ (ms_rf l0 0) v5).bind fun v6 =>
            (f_X12_of σ l1 6).bind fun v7 =>
            (ms_ald σ (ms_rf l0 0) v7).bind fun v8 =>
            if v6 = v8 then
              (f_X12_mayHave_2 σ n) l0 l1 l2 (l3 + 1)
            else
              some 0
          else
            (f_X12_mayHave_2 σ n) l0 l1 l2 (l3 + 1)
    else
      some 1
def f_X12_mayHave  (σ : MsSt) (l0 : Nat) (l1 : Int32) (l2 : Int32) : Option (Int32) :=
  f_X12_mayHave_2 σ ms_fuel l0 l1 l2 0
def f_X12_bestClass_62   : Nat → MsSt → Nat → Int32 → Int32 → Int32 → Int32 → Int32 → Int32 → Option (Int32 × MsSt)
  | 0, _, _, _, _, _, _, _, _ => none
  | n + 1, σ, l0, l1, l2, l3, l4, l5, l6 =>
    if 60 < l6 then
      (f_X12_of σ l2 1).bind fun v5 =>
      (ms_ast σ (ms_rf l0 0) v5 l3).bind fun s6 =>
      some (l4, s6)
    else
      (f_X12_mayHave σ l0 l2 l6).bind fun v7 =>
      if v7 = 0 then
        (f_X12_bestClass_62 n) σ l0 l1 l2 l3 l4 l5 (l6 + 1)
      else
        (f_X12_of σ l2 1).bind fun v8 =>
        (ms_ast σ (ms_rf l0 0) v8 l6).bind fun s9 =>
        (f_X12_layDecomposed s9 l0 l1).bind fun s10 =>
        if l4 = (-1) then
          (f_X12_bestClass_62 n) s10 l0 l1 l2 l3 l6 (ms_i s10 l0 12) (l6 + 1)
        else
          if (ms_i s10 l0 12) < l5 then
            (f_X12_bestClass_62 n) s10 l0 l1 l2 l3 l6 (ms_i s10 l0 12) (l6 + 1)
          else
            (f_X12_bestClass_62 n) s10 l0 l1 l2 l3 l4 l5 (l6 + 1)
def f_X12_bestClass_30   (σ : MsSt) (l0 : Nat) (l1 : Int32) (l2 : Int32) (t0 : Int32) (t1 : Nat) : Option (Int32 × MsSt) :=
  ms_nm (ms_si σ t1 7 t0) fun s2 =>
  if (ms_i s2 l0 7) = 0 then
    (f_X12_of s2 l2 1).bind fun v3 =>
    (ms_ald s2 (ms_rf l0 0) v3).bind fun v4 =>
    f_X12_bestClass_62 ms_fuel s2 l0 l1 l2 v4 (-1) 0 1
  else
    some (0, s2)
def f_X12_bestClass_29   (σ : MsSt) (l0 : Nat) (l1 : Int32) (l2 : Int32) (t0 : Nat) : Option (Int32 × MsSt) :=
  f_X12_bestClass_30 σ l0 l1 l2 1 t0
def f_X12_bestClass  (σ : MsSt) (l0 : Nat) (l1 : Int32) (l2 : Int32) : Option (Int32 × MsSt) :=
  (f_X12_isLine σ l0 l1).bind fun v1 =>
  if v1 = 0 then
    f_X12_bestClass_29 σ l0 l1 l2 l0
  else
    (f_X12_isSign σ l0 l2).bind fun v11 =>
    if v11 = 0 then
      f_X12_bestClass_29 σ l0 l1 l2 l0
    else
      (f_X12_isMark σ l0 l2).bind fun v12 =>
      if v12 = 0 then
        f_X12_bestClass_29 σ l0 l1 l2 l0
      else
        f_X12_bestClass_30 σ l0 l1 l2 0 l0
def f_X12_meanMarks_19   : Nat → MsSt → Nat → Int32 → Int32 → Option (UInt64 × MsSt)
  | 0, _, _, _, _ => none
  | n + 1, σ, l0, l2, l3 =>
    if l3 < (ms_i σ l0 17) then
      (f_X12_marksOf σ l0 l3).bind fun v5 =>
      (f_X12_meanMarks_19 n) σ l0 (l2 + v5) (l3 + 1)
    else
      if (ms_i σ l0 17) = 0 then
        some (0, σ)
      else
        (ms_ddiv (FP.i2d l2) (FP.i2d (ms_i σ l0 17))).bind fun v4 =>
        some (v4, σ)
def f_X12_meanMarks  (σ : MsSt) (l0 : Nat) (l1 : Int32) : Option (UInt64 × MsSt) :=
  ms_b2 (f_X12_noLine σ l0 l1) fun v1 s2 =>
  if v1 = 0 then
    (f_X12_layClusters s2 l0 l1).bind fun s3 =>
    f_X12_meanMarks_19 ms_fuel s3 l0 0 0
  else
    some (0, s2)
def f_X12_shortness  (σ : MsSt) (l0 : Nat) (l1 : Int32) : Option (UInt32 × MsSt) :=
  ms_b2 (f_X12_noLine σ l0 l1) fun v1 s2 =>
  if v1 = 0 then
    (f_X12_layForms s2 l0 l1).bind fun s3 =>
    if (ms_i s3 l0 11) = 0 then
      some (0, s3)
    else
      (ms_fdiv (FP.i2f (ms_i s3 l0 15)) (FP.i2f (ms_i s3 l0 11))).bind fun v4 =>
      some (v4, s3)
  else
    some (0, s2)
def f_X12_copy_3   : Nat → MsSt → Nat → Int32 → Nat → Int32 → Int32 → Option (MsSt)
  | 0, _, _, _, _, _, _ => none
  | n + 1, σ, l0, l1, l2, l3, l4 =>
    if l4 < 527 then
      (ms_ald σ l0 ((527 * l1) + l4)).bind fun v1 =>
      (ms_ast σ l2 ((527 * l3) + l4) v1).bind fun s2 =>
      (f_X12_copy_3 n) s2 l0 l1 l2 l3 (l4 + 1)
    else
      some σ
def f_X12_copy  (σ : MsSt) (l0 : Nat) (l1 : Int32) (l2 : Nat) (l3 : Int32) : Option (MsSt) :=
  f_X12_copy_3 ms_fuel σ l0 l1 l2 l3 0
def f_X12_record_48   (σ : MsSt) (l0 : Nat) : Option (MsSt) :=
  (f_X12_copy σ (ms_rf l0 0) 0 (ms_rf l0 3) (ms_i σ l0 6)).bind fun s1 =>
  ms_nm (ms_si s1 l0 6 ((ms_i s1 l0 6) + 1)) fun s2 =>
  some s2
def f_X12_record_11   : Nat → MsSt → Nat → Int32 → Option (MsSt)
  | 0, _, _, _ => none
  | n + 1, σ, l0, l1 =>
    if l1 < 10 then
      (f_X12_copy σ (ms_rf l0 3) l1 (ms_rf l0 3) (l1 - 1)).bind fun s4 =>
      (f_X12_record_11 n) s4 l0 (l1 + 1)
    else
      ms_nm (ms_si σ l0 6 ((ms_i σ l0 6) - 1)) fun s3 =>
      f_X12_record_48 s3 l0
def f_X12_record  (σ : MsSt) (l0 : Nat) : Option (MsSt) :=
  if (ms_i σ l0 6) = 10 then
    f_X12_record_11 ms_fuel σ l0 1
  else
    f_X12_record_48 σ l0
def f_X12_hand  (σ : MsSt) (l0 : Nat) (l1 : Int32) : Option (Int32 × MsSt) :=
  ms_b2 (f_X12_noLine σ l0 l1) fun v1 s2 =>
  if v1 = 0 then
    (f_X12_record s2 l0).bind fun s3 =>
    (ms_ald s3 (ms_rf l0 0) 2).bind fun v4 =>
    (ms_ast s3 (ms_rf l0 0) 2 l1).bind fun s5 =>
    some (v4, s5)
  else
    some (0, s2)
def f_X12_type_86   : Nat → MsSt → Nat → Int32 → Int32 → Int32 → Int32 → Option (Int32 × MsSt)
  | 0, _, _, _, _, _, _ => none
  | n + 1, σ, l0, l1, l2, l3, l4 =>
    if l2 < l4 then
      (f_X12_spot σ l1 l4).bind fun v11 =>
      (f_X12_spot σ l1 (l4 - 1)).bind fun v12 =>
      (ms_ald σ (ms_rf l0 0) v12).bind fun v13 =>
      (ms_ast σ (ms_rf l0 0) v11 v13).bind fun s14 =>
      (f_X12_type_86 n) s14 l0 l1 l2 l3 (l4 + (-1))
    else
      (f_X12_spot σ l1 l2).bind fun v6 =>
      (ms_ast σ (ms_rf l0 0) v6 l3).bind fun s7 =>
      (ms_ald s7 (ms_rf l0 0) (3 + l1)).bind fun v8 =>
      (ms_ast s7 (ms_rf l0 0) (3 + l1) (v8 + 1)).bind fun s9 =>
      (f_X12_layDecomposed s9 l0 l1).bind fun s10 =>
      some ((ms_i s10 l0 11), s10)
def f_X12_type_44   (σ : MsSt) (l0 : Nat) (l1 : Int32) (l2 : Int32) (l3 : Int32) (t0 : Int32) (t1 : Nat) : Option (Int32 × MsSt) :=
  ms_nm (ms_si σ t1 7 t0) fun s2 =>
  if (ms_i s2 l0 7) = 0 then
    (ms_ald s2 (ms_rf l0 0) (3 + l1)).bind fun v3 =>
    if v3 = 60 then
      some ((-2), s2)
    else
      (f_X12_record s2 l0).bind fun s4 =>
      (ms_ald s4 (ms_rf l0 0) (3 + l1)).bind fun v5 =>
      f_X12_type_86 ms_fuel s4 l0 l1 l2 l3 v5
  else
    some (0, s2)
def f_X12_type_17   (σ : MsSt) (l0 : Nat) (l1 : Int32) (l2 : Int32) (l3 : Int32) (t0 : Nat) : Option (Int32 × MsSt) :=
  f_X12_type_44 σ l0 l1 l2 l3 1 t0
def f_X12_type  (σ : MsSt) (l0 : Nat) (l1 : Int32) (l2 : Int32) (l3 : Int32) : Option (Int32 × MsSt) :=
  (f_X12_isLine σ l0 l1).bind fun v1 =>
  if v1 = 0 then
    f_X12_type_17 σ l0 l1 l2 l3 l0
  else
    (f_X12_isSign σ l0 l3).bind fun v15 =>
    if v15 = 0 then
      f_X12_type_17 σ l0 l1 l2 l3 l0
    else
      (ms_ald σ (ms_rf l0 0) (3 + l1)).bind fun v16 =>
      (f_X12_inRange σ l2.toInt64 0 v16.toInt64).bind fun v17 =>
      if v17 = 0 then
        f_X12_type_44 σ l0 l1 l2 l3 2 l0
      else
        f_X12_type_44 σ l0 l1 l2 l3 0 l0
def f_X12_shorten_2   : Nat → MsSt → Nat → Int32 → Int32 → Int32 → Option (MsSt)
  | 0, _, _, _, _, _ => none
  | n + 1, σ, l0, l1, l2, l3 =>
    if l3 < 60 then
      (f_X12_spot σ l1 l3).bind fun v2 =>
      (ms_ast σ (ms_rf l0 0) v2 0).bind fun s3 =>
      (f_X12_shorten_2 n) s3 l0 l1 l2 (l3 + 1)
    else
      (ms_ast σ (ms_rf l0 0) (3 + l1) l2).bind fun s1 =>
      some s1
def f_X12_shorten  (σ : MsSt) (l0 : Nat) (l1 : Int32) (l2 : Int32) : Option (MsSt) :=
  f_X12_shorten_2 ms_fuel σ l0 l1 l2 l2
def f_X12_erase_72   : Nat → MsSt → Nat → Int32 → Int32 → Int32 → Int32 → Option (Int32 × MsSt)
  | 0, _, _, _, _, _, _ => none
  | n + 1, σ, l0, l1, l4, l5, l6 =>
    if l6 < l5 then
      (f_X12_spot σ l1 l6).bind fun v6 =>
      (f_X12_spot σ l1 (l6 + l4)).bind fun v7 =>
      (ms_ald σ (ms_rf l0 0) v7).bind fun v8 =>
      (ms_ast σ (ms_rf l0 0) v6 v8).bind fun s9 =>
      (f_X12_erase_72 n) s9 l0 l1 l4 l5 (l6 + 1)
    else
      (f_X12_shorten σ l0 l1 l5).bind fun s5 =>
      some (l5, s5)
def f_X12_erase_33   (σ : MsSt) (l0 : Nat) (l1 : Int32) (l2 : Int32) (l3 : Int32) (t0 : Int32) (t1 : Nat) : Option (Int32 × MsSt) :=
  ms_nm (ms_si σ t1 7 t0) fun s2 =>
  if (ms_i s2 l0 7) = 0 then
    (f_X12_record s2 l0).bind fun s3 =>
    (ms_ald s3 (ms_rf l0 0) (3 + l1)).bind fun v4 =>
    f_X12_erase_72 ms_fuel s3 l0 l1 ((l3 - l2) + 1) (v4 - ((l3 - l2) + 1)) l2
  else
    some (0, s2)
def f_X12_erase_19   (σ : MsSt) (l0 : Nat) (l1 : Int32) (l2 : Int32) (l3 : Int32) (t0 : Nat) : Option (Int32 × MsSt) :=
  f_X12_erase_33 σ l0 l1 l2 l3 1 t0
def f_X12_erase  (σ : MsSt) (l0 : Nat) (l1 : Int32) (l2 : Int32) (l3 : Int32) : Option (Int32 × MsSt) :=
  (f_X12_isPlace σ l0 l1 l2).bind fun v1 =>
  if v1 = 0 then
    f_X12_erase_19 σ l0 l1 l2 l3 l0
  else
    (f_X12_isPlace σ l0 l1 l3).bind fun v10 =>
    if v10 = 0 then
      f_X12_erase_19 σ l0 l1 l2 l3 l0
    else
      if l3 < l2 then
        f_X12_erase_33 σ l0 l1 l2 l3 2 l0
      else
        f_X12_erase_33 σ l0 l1 l2 l3 0 l0
def f_X12_write_7   : Nat → MsSt → Nat → Int32 → Nat → Int32 → Int32 → Option (MsSt)
  | 0, _, _, _, _, _, _ => none
  | n + 1, σ, l0, l1, l2, l3, l4 =>
    if l4 < l3 then
      (f_X12_spot σ l1 l4).bind fun v3 =>
      (ms_ald σ l2 l4).bind fun v4 =>
      (ms_ast σ (ms_rf l0 0) v3 v4).bind fun s5 =>
      (f_X12_write_7 n) s5 l0 l1 l2 l3 (l4 + 1)
    else
      (f_X12_shorten σ l0 l1 l3).bind fun s2 =>
      some s2
def f_X12_write  (σ : MsSt) (l0 : Nat) (l1 : Int32) (l2 : Nat) (l3 : Int32) : Option (MsSt) :=
  (f_X12_record σ l0).bind fun s1 =>
  f_X12_write_7 ms_fuel s1 l0 l1 l2 l3 0
def f_X12_stack_134   : Nat → MsSt → Nat → Int32 → Int32 → Int32 → Int32 → Int32 → Option (Int32 × MsSt)
  | 0, _, _, _, _, _, _, _ => none
  | n + 1, σ, l0, l1, l3, l4, l5, l6 =>
    if l4 < l6 then
      (ms_ald σ (ms_rf l0 10) (l6 - 1)).bind fun v9 =>
      (ms_ast σ (ms_rf l0 10) l6 v9).bind fun s10 =>
      (f_X12_stack_134 n) s10 l0 l1 l3 l4 l5 (l6 + (-1))
    else
      (ms_ast σ (ms_rf l0 10) l4 l3).bind fun s7 =>
      (f_X12_write s7 l0 l1 (ms_rf l0 10) ((ms_i s7 l0 11) + 1)).bind fun s8 =>
      some (l5, s8)
def f_X12_stack_118   (σ : MsSt) (l0 : Nat) (l1 : Int32) (l2 : Int32) (l3 : Int32) (l4 : Int32) : Option (Int32 × MsSt) :=
  (f_X12_firstMark σ l0 l2).bind fun v6 =>
  f_X12_stack_134 ms_fuel σ l0 l1 l3 l4 (l4 - v6) (ms_i σ l0 11)
def f_X12_stack_71   : Nat → MsSt → Nat → Int32 → Int32 → Int32 → Int32 → Option (Int32 × MsSt)
  | 0, _, _, _, _, _, _ => none
  | n + 1, σ, l0, l1, l2, l3, l4 =>
    (f_X12_firstMark σ l0 l2).bind fun v5 =>
    if v5 < l4 then
      (ms_ald σ (ms_rf l0 10) (l4 - 1)).bind fun v11 =>
      (f_X12_of σ v11 1).bind fun v12 =>
      (ms_ald σ (ms_rf l0 0) v12).bind fun v13 =>
      (f_X12_of σ l3 1).bind fun v14 =>
      (ms_ald σ (ms_rf l0 0) v14).bind fun v15 =>
      if v15 < v13 then
        (f_X12_stack_71 n) σ l0 l1 l2 l3 (l4 + (-1))
      else
        f_X12_stack_118 σ l0 l1 l2 l3 l4
    else
      f_X12_stack_118 σ l0 l1 l2 l3 l4
def f_X12_stack_35   (σ : MsSt) (l0 : Nat) (l1 : Int32) (l2 : Int32) (l3 : Int32) (t0 : Int32) (t1 : Nat) : Option (Int32 × MsSt) :=
  ms_nm (ms_si σ t1 7 t0) fun s3 =>
  if (ms_i s3 l0 7) = 0 then
    if 60 < ((ms_i s3 l0 11) + 1) then
      some ((-2), s3)
    else
      (ms_ald s3 (ms_rf l0 16) (l2 + 1)).bind fun v4 =>
      f_X12_stack_71 ms_fuel s3 l0 l1 l2 l3 v4
  else
    some (0, s3)
def f_X12_stack_18   (σ : MsSt) (l0 : Nat) (l1 : Int32) (l2 : Int32) (l3 : Int32) (t0 : Nat) : Option (Int32 × MsSt) :=
  f_X12_stack_35 σ l0 l1 l2 l3 1 t0
def f_X12_stack  (σ : MsSt) (l0 : Nat) (l1 : Int32) (l2 : Int32) (l3 : Int32) : Option (Int32 × MsSt) :=
  ms_b2 (f_X12_isCluster σ l0 l1 l2) fun v1 s2 =>
  if v1 = 0 then
    f_X12_stack_18 s2 l0 l1 l2 l3 l0
  else
    (f_X12_isSign s2 l0 l3).bind fun v16 =>
    if v16 = 0 then
      f_X12_stack_18 s2 l0 l1 l2 l3 l0
    else
      (f_X12_isMark s2 l0 l3).bind fun v17 =>
      if v17 = 0 then
        f_X12_stack_35 s2 l0 l1 l2 l3 2 l0
      else
        f_X12_stack_35 s2 l0 l1 l2 l3 0 l0
def f_X12_strip_124  (k49 : MsSt → Nat → Int32 → Int32 → Int32 → Int32 → Int32 → Option (Int32 × MsSt)) (σ : MsSt) (l0 : Nat) (l1 : Int32) (l2 : Int32) (l3 : Int32) (l4 : Int32) (l5 : Int32) (t0 : Int32) : Option (Int32 × MsSt) :=
  (ms_ald σ (ms_rf l0 10) l5).bind fun v7 =>
  (ms_ast σ (ms_rf l0 20) l4 v7).bind fun s8 =>
  if t0 = 0 then
    k49 s8 l0 l1 l2 l3 (l4 + 1) (l5 + 1)
  else
    k49 s8 l0 l1 l2 l3 (l4 + 0) (l5 + 1)
def f_X12_strip_123  (k49 : MsSt → Nat → Int32 → Int32 → Int32 → Int32 → Int32 → Option (Int32 × MsSt)) (σ : MsSt) (l0 : Nat) (l1 : Int32) (l2 : Int32) (l3 : Int32) (l4 : Int32) (l5 : Int32) : Option (Int32 × MsSt) :=
  f_X12_strip_124 k49 σ l0 l1 l2 l3 l4 l5 0
def f_X12_strip_119  (k49 : MsSt → Nat → Int32 → Int32 → Int32 → Int32 → Int32 → Option (Int32 × MsSt)) (σ : MsSt) (l0 : Nat) (l1 : Int32) (l2 : Int32) (l3 : Int32) (l4 : Int32) (l5 : Int32) : Option (Int32 × MsSt) :=
  f_X12_strip_124 k49 σ l0 l1 l2 l3 l4 l5 1
def f_X12_strip_86  (k49 : MsSt → Nat → Int32 → Int32 → Int32 → Int32 → Int32 → Option (Int32 × MsSt)) (σ : MsSt) (l0 : Nat) (l1 : Int32) (l2 : Int32) (l3 : Int32) (l4 : Int32) (l5 : Int32) (t0 : Int32) : Option (Int32 × MsSt) :=
  if t0 = 0 then
    f_X12_strip_123 k49 σ l0 l1 l2 l3 l4 l5
  else
    if l3 = 3 then
      f_X12_strip_119 k49 σ l0 l1 l2 l3 l4 l5
    else
      (ms_ald σ (ms_rf l0 10) l5).bind fun v9 =>
      (f_X12_of σ v9 6).bind fun v10 =>
      (ms_ald σ (ms_rf l0 0) v10).bind fun v11 =>
      if v11 = l3 then
        f_X12_strip_119 k49 σ l0 l1 l2 l3 l4 l5
      else
        f_X12_strip_123 k49 σ l0 l1 l2 l3 l4 l5
def f_X12_strip_85  (k49 : MsSt → Nat → Int32 → Int32 → Int32 → Int32 → Int32 → Option (Int32 × MsSt)) (σ : MsSt) (l0 : Nat) (l1 : Int32) (l2 : Int32) (l3 : Int32) (l4 : Int32) (l5 : Int32) : Option (Int32 × MsSt) :=
  f_X12_strip_86 k49 σ l0 l1 l2 l3 l4 l5 0
def f_X12_strip_49   : Nat → MsSt → Nat → Int32 → Int32 → Int32 → Int32 → Int32 → Option (Int32 × MsSt)
  | 0, _, _, _, _, _, _, _ => none
  | n + 1, σ, l0, l1, l2, l3, l4, l5 =>
    if l5 < (ms_i σ l0 11) then
      (f_X12_firstMark σ l0 l2).bind fun v6 =>
      if l5 < v6 then
        f_X12_strip_85 (f_X12_strip_49 n) σ l0 l1 l2 l3 l4 l5
      else
        (ms_ald σ (ms_rf l0 16) (l2 + 1)).bind fun v12 =>
        if l5 < v12 then
          f_X12_strip_86 (f_X12_strip_49 n) σ l0 l1 l2 l3 l4 l5 1
        else
          f_X12_strip_85 (f_X12_strip_49 n) σ l0 l1 l2 l3 l4 l5
    else
      if 60 < l4 then
        some ((-2), σ)
      else
        (f_X12_write σ l0 l1 (ms_rf l0 20) l4).bind fun s5 =>
        some (((ms_i s5 l0 11) - l4), s5)
def f_X12_strip_31   (σ : MsSt) (l0 : Nat) (l1 : Int32) (l2 : Int32) (l3 : Int32) (t0 : Int32) (t1 : Nat) : Option (Int32 × MsSt) :=
  ms_nm (ms_si σ t1 7 t0) fun s4 =>
  if (ms_i s4 l0 7) = 0 then
    f_X12_strip_49 ms_fuel s4 l0 l1 l2 l3 0 0
  else
    some (0, s4)
def f_X12_strip  (σ : MsSt) (l0 : Nat) (l1 : Int32) (l2 : Int32) (l3 : Int32) : Option (Int32 × MsSt) :=
  ms_b2 (f_X12_isCluster σ l0 l1 l2) fun v1 s2 =>
  if v1 = 0 then
    f_X12_strip_31 s2 l0 l1 l2 l3 1 l0
  else
    (f_X12_inRange s2 l3.toInt64 0 3).bind fun v3 =>
    if v3 = 0 then
      f_X12_strip_31 s2 l0 l1 l2 l3 2 l0
    else
      f_X12_strip_31 s2 l0 l1 l2 l3 0 l0
def f_X12_become  (σ : MsSt) (l0 : Nat) (l1 : Int32) (l2 : Nat) (l3 : Int32) : Option (Int32 × MsSt) :=
  if 60 < l3 then
    some ((-2), σ)
  else
    (f_X12_write σ l0 l1 l2 l3).bind fun s1 =>
    some (l3, s1)
def f_X12_decompose  (σ : MsSt) (l0 : Nat) (l1 : Int32) : Option (Int32 × MsSt) :=
  ms_b2 (f_X12_noLine σ l0 l1) fun v1 s2 =>
  if v1 = 0 then
    (f_X12_layDecomposed s2 l0 l1).bind fun s3 =>
    ms_b2 (f_X12_become s3 l0 l1 (ms_rf l0 10) (ms_i s3 l0 11)) fun v4 s5 =>
    some (v4, s5)
  else
    some (0, s2)
def f_X12_compose  (σ : MsSt) (l0 : Nat) (l1 : Int32) : Option (Int32 × MsSt) :=
  ms_b2 (f_X12_noLine σ l0 l1) fun v1 s2 =>
  if v1 = 0 then
    (f_X12_layForms s2 l0 l1).bind fun s3 =>
    ms_b2 (f_X12_become s3 l0 l1 (ms_rf l0 13) (ms_i s3 l0 15)) fun v4 s5 =>
    some (v4, s5)
  else
    some (0, s2)
def f_X12_join_49   : Nat → MsSt → Nat → Int32 → Int32 → Int32 → Int32 → Int32 → Option (Int32 × MsSt)
  | 0, _, _, _, _, _, _, _ => none
  | n + 1, σ, l0, l1, l2, l3, l4, l5 =>
    if l5 < l4 then
      (f_X12_spot σ l1 (l3 + l5)).bind fun v7 =>
      (f_X12_spot σ l2 l5).bind fun v8 =>
      (ms_ald σ (ms_rf l0 0) v8).bind fun v9 =>
      (ms_ast σ (ms_rf l0 0) v7 v9).bind fun s10 =>
      (f_X12_join_49 n) s10 l0 l1 l2 l3 l4 (l5 + 1)
    else
      (ms_ast σ (ms_rf l0 0) (3 + l1) (l3 + l4)).bind fun s6 =>
      some ((l3 + l4), s6)
def f_X12_join  (σ : MsSt) (l0 : Nat) (l1 : Int32) (l2 : Int32) : Option (Int32 × MsSt) :=
  ms_b2 (f_X12_noTwoLines σ l0 l1 l2) fun v1 s2 =>
  if v1 = 0 then
    (ms_ald s2 (ms_rf l0 0) (3 + l1)).bind fun v3 =>
    (ms_ald s2 (ms_rf l0 0) (3 + l2)).bind fun v4 =>
    if 60 < (v3 + v4) then
      some ((-2), s2)
    else
      (f_X12_record s2 l0).bind fun s5 =>
      f_X12_join_49 ms_fuel s5 l0 l1 l2 v3 v4 0
  else
    some (0, s2)
def f_X12_set  (σ : MsSt) (l0 : Nat) (l1 : Int32) (l2 : Int32) : Option (Int32 × MsSt) :=
  (f_X12_record σ l0).bind fun s1 =>
  (ms_ald s1 (ms_rf l0 0) l1).bind fun v2 =>
  (ms_ast s1 (ms_rf l0 0) l1 l2).bind fun s3 =>
  some (v2, s3)
def f_X12_setClass_38   (σ : MsSt) (l0 : Nat) (l1 : Int32) (l2 : Int32) (t0 : Int32) (t1 : Nat) : Option (Int32 × MsSt) :=
  ms_nm (ms_si σ t1 7 t0) fun s3 =>
  if (ms_i s3 l0 7) = 0 then
    (f_X12_mayHave s3 l0 l1 l2).bind fun v4 =>
    if v4 = 0 then
      some ((-2), s3)
    else
      (f_X12_of s3 l1 1).bind fun v5 =>
      ms_b2 (f_X12_set s3 l0 v5 l2) fun v6 s7 =>
      some (v6, s7)
  else
    some (0, s3)
def f_X12_setClass_37   (σ : MsSt) (l0 : Nat) (l1 : Int32) (l2 : Int32) (t0 : Nat) : Option (Int32 × MsSt) :=
  f_X12_setClass_38 σ l0 l1 l2 2 t0
def f_X12_setClass  (σ : MsSt) (l0 : Nat) (l1 : Int32) (l2 : Int32) : Option (Int32 × MsSt) :=
  (f_X12_isSign σ l0 l1).bind fun v1 =>
  if v1 = 0 then
    f_X12_setClass_38 σ l0 l1 l2 1 l0
  else
    (f_X12_isMark σ l0 l1).bind fun v2 =>
    if v2 = 0 then
      f_X12_setClass_37 σ l0 l1 l2 l0
    else
      (f_X12_inRange σ l2.toInt64 1 60).bind fun v8 =>
      if v8 = 0 then
        f_X12_setClass_37 σ l0 l1 l2 l0
      else
        f_X12_setClass_38 σ l0 l1 l2 0 l0
def f_X12_setSpare_27   (σ : MsSt) (l0 : Nat) (l1 : Int32) (l2 : Int32) (t0 : Int32) (t1 : Nat) : Option (Int32 × MsSt) :=
  ms_nm (ms_si σ t1 7 t0) fun s3 =>
  if (ms_i s3 l0 7) = 0 then
    (f_X12_of s3 l1 5).bind fun v4 =>
    if l2 = 0 then
      ms_b2 (f_X12_set s3 l0 v4 0) fun v5 s6 =>
      some (v5, s6)
    else
      ms_b2 (f_X12_set s3 l0 v4 1) fun v7 s8 =>
      some (v7, s8)
  else
    some (0, s3)
def f_X12_setSpare  (σ : MsSt) (l0 : Nat) (l1 : Int32) (l2 : Int32) : Option (Int32 × MsSt) :=
  (f_X12_isSign σ l0 l1).bind fun v1 =>
  if v1 = 0 then
    f_X12_setSpare_27 σ l0 l1 l2 1 l0
  else
    (f_X12_isOfKind σ l0 l1 2).bind fun v2 =>
    if v2 = 0 then
      f_X12_setSpare_27 σ l0 l1 l2 2 l0
    else
      f_X12_setSpare_27 σ l0 l1 l2 0 l0
def f_X12_put  (σ : MsSt) (l0 : Nat) (l1 : Int32) : Option (MsSt) :=
  (ms_ast σ (ms_rf l0 24) (ms_i σ l0 25) l1).bind fun s1 =>
  ms_nm (ms_si s1 l0 25 ((ms_i s1 l0 25) + 1)) fun s2 =>
  some s2
def f_X12_putSign_30   : Nat → MsSt → Nat → Int32 → Int32 → Option (MsSt)
  | 0, _, _, _, _ => none
  | n + 1, σ, l0, l1, l2 =>
    if l2 < 4 then
      (ms_ald σ (ms_rf l0 4) ((4 * l1) + l2)).bind fun v2 =>
      if v2 = 0 then
        some σ
      else
        (ms_ald σ (ms_rf l0 4) ((4 * l1) + l2)).bind fun v3 =>
        (f_X12_put σ l0 v3).bind fun s4 =>
        (f_X12_putSign_30 n) s4 l0 l1 (l2 + 1)
    else
      some σ
def f_X12_putSign  (σ : MsSt) (l0 : Nat) (l1 : Int32) : Option (MsSt) :=
  (f_X12_isOfKind σ l0 l1 0).bind fun v1 =>
  if v1 = 0 then
    (f_X12_isMark σ l0 l1).bind fun v5 =>
    if v5 = 0 then
      (f_X12_put σ l0 42).bind fun s6 =>
      f_X12_putSign_30 ms_fuel s6 l0 l1 0
    else
      (f_X12_put σ l0 43).bind fun s7 =>
      f_X12_putSign_30 ms_fuel s7 l0 l1 0
  else
    f_X12_putSign_30 ms_fuel σ l0 l1 0
def f_X12_format_70  (k50 : MsSt → Nat → Int32 → Int32 → Int32 → Option (Int32 × MsSt)) (σ : MsSt) (l0 : Nat) (l1 : Int32) (l2 : Int32) (l3 : Int32) : Option (Int32 × MsSt) :=
  (f_X12_signIn σ l0 l1 l2 l3).bind fun v6 =>
  (f_X12_putSign σ l0 v6).bind fun s7 =>
  k50 s7 l0 l1 l2 (l3 + 1)
def f_X12_format_50   : Nat → MsSt → Nat → Int32 → Int32 → Int32 → Option (Int32 × MsSt)
  | 0, _, _, _, _, _ => none
  | n + 1, σ, l0, l1, l2, l3 =>
    (f_X12_manyIn σ l0 l1 l2).bind fun v5 =>
    if l3 < v5 then
      if 0 < l3 then
        (f_X12_put σ l0 32).bind fun s8 =>
        f_X12_format_70 (f_X12_format_50 n) s8 l0 l1 l2 l3
      else
        f_X12_format_70 (f_X12_format_50 n) σ l0 l1 l2 l3
    else
      some ((ms_i σ l0 25), σ)
def f_X12_format_26   (σ : MsSt) (l0 : Nat) (l1 : Int32) (l2 : Int32) (t0 : Int32) (t1 : Nat) : Option (Int32 × MsSt) :=
  ms_nm (ms_si σ t1 7 t0) fun s2 =>
  if (ms_i s2 l0 7) = 0 then
    ms_nm (ms_si s2 l0 25 0) fun s3 =>
    (f_X12_layForms s3 l0 l1).bind fun s4 =>
    f_X12_format_50 ms_fuel s4 l0 l1 l2 0
  else
    some (0, s2)
def f_X12_format_25   (σ : MsSt) (l0 : Nat) (l1 : Int32) (l2 : Int32) (t0 : Nat) : Option (Int32 × MsSt) :=
  f_X12_format_26 σ l0 l1 l2 1 t0
def f_X12_format  (σ : MsSt) (l0 : Nat) (l1 : Int32) (l2 : Int32) : Option (Int32 × MsSt) :=
  (f_X12_isLine σ l0 l1).bind fun v1 =>
  if v1 = 0 then
    f_X12_format_25 σ l0 l1 l2 l0
  else
    (f_X12_inRange σ l2.toInt64 0 2).bind fun v9 =>
    if v9 = 0 then
      f_X12_format_25 σ l0 l1 l2 l0
    else
      f_X12_format_26 σ l0 l1 l2 0 l0
def f_X12_formattedByte  (σ : MsSt) (l0 : Nat) (l1 : Int32) : Option (Int32 × MsSt) :=
  ms_nm (ms_si σ l0 7 0) fun s1 =>
  (f_X12_inRange s1 l1.toInt64 0 (((ms_i s1 l0 25) - 1).toInt64)).bind fun v2 =>
  if v2 = 0 then
    some ((-1), s1)
  else
    (ms_ald s1 (ms_rf l0 24) l1).bind fun v3 =>
    some (v3, s1)
def f_X12_undoCount  (σ : MsSt) (l0 : Nat) : Option (Int32 × MsSt) :=
  ms_nm (ms_si σ l0 7 0) fun s1 =>
  some ((ms_i s1 l0 6), s1)
def f_X12_undo  (σ : MsSt) (l0 : Nat) : Option (Int32 × MsSt) :=
  ms_nm (ms_si σ l0 7 0) fun s1 =>
  if (ms_i s1 l0 6) = 0 then
    some ((-1), s1)
  else
    ms_nm (ms_si s1 l0 6 ((ms_i s1 l0 6) - 1)) fun s2 =>
    (f_X12_copy s2 (ms_rf l0 3) (ms_i s2 l0 6) (ms_rf l0 0) 0).bind fun s3 =>
    some ((ms_i s3 l0 6), s3)
def f_X12_saveSnapshot  (σ : MsSt) (l0 : Nat) : Option (MsSt) :=
  ms_nm (ms_si σ l0 7 0) fun s1 =>
  (f_X12_copy s1 (ms_rf l0 0) 0 (ms_rf l0 2) 0).bind fun s2 =>
  ms_nm (ms_si s2 l0 8 1) fun s3 =>
  some s3
def f_X12_restoreSnapshot  (σ : MsSt) (l0 : Nat) : Option (Int32 × MsSt) :=
  ms_nm (ms_si σ l0 7 0) fun s1 =>
  if (ms_i s1 l0 8) = 0 then
    some (0, s1)
  else
    (f_X12_copy s1 (ms_rf l0 2) 0 (ms_rf l0 0) 0).bind fun s2 =>
    ms_nm (ms_si s2 l0 6 0) fun s3 =>
    some (1, s3)
def f_X12_feed_76  (k23 : MsSt → Nat → Int32 → Int32 → Int32 → Int32 → Int32 → Int32 → Option (Int32 × MsSt)) (σ : MsSt) (l0 : Nat) (l1 : Int32) (l2 : Int32) (l3 : Int32) (l4 : Int32) (l5 : Int32) (l6 : Int32) (t0 : Int32) : Option (Int32 × MsSt) :=
  (ms_irem l6 4).bind fun v2 =>
  (ms_ast σ (ms_rf l0 26) (ms_i σ l0 27) ((t0 >>> ((24 - (8 * v2)) &&& 31)) &&& 255)).bind fun s3 =>
  ms_nm (ms_si s3 l0 27 ((ms_i s3 l0 27) + 1)) fun s4 =>
  k23 s4 l0 l1 l2 l3 l4 l5 (l6 + 1)
def f_X12_feed_23   : Nat → MsSt → Nat → Int32 → Int32 → Int32 → Int32 → Int32 → Int32 → Option (Int32 × MsSt)
  | 0, _, _, _, _, _, _, _, _ => none
  | n + 1, σ, l0, l1, l2, l3, l4, l5, l6 =>
    if l6 < 20 then
      if l6 < 4 then
        f_X12_feed_76 (f_X12_feed_23 n) σ l0 l1 l2 l3 l4 l5 l6 l1
      else
        if l6 < 8 then
          f_X12_feed_76 (f_X12_feed_23 n) σ l0 l1 l2 l3 l4 l5 l6 l2
        else
          if l6 < 12 then
            f_X12_feed_76 (f_X12_feed_23 n) σ l0 l1 l2 l3 l4 l5 l6 l3
          else
            if l6 < 16 then
              f_X12_feed_76 (f_X12_feed_23 n) σ l0 l1 l2 l3 l4 l5 l6 l4
            else
              f_X12_feed_76 (f_X12_feed_23 n) σ l0 l1 l2 l3 l4 l5 l6 l5
    else
      some ((ms_i σ l0 27), σ)
def f_X12_feed  (σ : MsSt) (l0 : Nat) (l1 : Int32) (l2 : Int32) (l3 : Int32) (l4 : Int32) (l5 : Int32) : Option (Int32 × MsSt) :=
  ms_nm (ms_si σ l0 7 0) fun s1 =>
  if 900 < ((ms_i s1 l0 27) + 20) then
    some ((-1), s1)
  else
    f_X12_feed_23 ms_fuel s1 l0 l1 l2 l3 l4 l5 0
def f_X12_errorPosition  (σ : MsSt) (l0 : Nat) : Option (Int32 × MsSt) :=
  ms_nm (ms_si σ l0 7 0) fun s1 =>
  some ((ms_i s1 l0 34), s1)
def f_X12_byteAt  (σ : MsSt) (l0 : Nat) (l1 : Int32) : Option (Int32) :=
  if l1 < (ms_i σ l0 28) then
    (ms_ald σ (ms_rf l0 26) l1).bind fun v1 =>
    some v1
  else
    some (-1)
def f_X12_isLetter  (σ : MsSt) (l0 : Nat) (l1 : Int32) : Option (Int32) :=
  (f_X12_byteAt σ l0 l1).bind fun v1 =>
  if v1 < 97 then
    some 0
  else
    (f_X12_byteAt σ l0 l1).bind fun v2 =>
    if 122 < v2 then
      some 0
    else
      some 1
def f_X12_isDigit  (σ : MsSt) (l0 : Nat) (l1 : Int32) : Option (Int32) :=
  (f_X12_byteAt σ l0 l1).bind fun v1 =>
  if v1 < 48 then
    some 0
  else
    (f_X12_byteAt σ l0 l1).bind fun v2 =>
    if 57 < v2 then
      some 0
    else
      some 1
def f_X12_scan_120   : Nat → MsSt → Nat → Option (MsSt)
  | 0, _, _ => none
  | n + 1, σ, l0 =>
    (f_X12_isDigit σ l0 (ms_i σ l0 29)).bind fun v9 =>
    if v9 = 0 then
      ms_nm (ms_si σ l0 31 2) fun s10 =>
      some s10
    else
      ms_nm (ms_si σ l0 29 ((ms_i σ l0 29) + 1)) fun s11 =>
      (f_X12_scan_120 n) s11 l0
def f_X12_scan_77   : Nat → MsSt → Nat → Option (MsSt)
  | 0, _, _ => none
  | n + 1, σ, l0 =>
    (f_X12_isLetter σ l0 (ms_i σ l0 29)).bind fun v12 =>
    if v12 = 0 then
      ms_nm (ms_si σ l0 31 1) fun s13 =>
      some s13
    else
      ms_nm (ms_si σ l0 29 ((ms_i σ l0 29) + 1)) fun s14 =>
      (f_X12_scan_77 n) s14 l0
def f_X12_scan_0   : Nat → MsSt → Nat → Option (MsSt)
  | 0, _, _ => none
  | n + 1, σ, l0 =>
    (f_X12_byteAt σ l0 (ms_i σ l0 29)).bind fun v1 =>
    if v1 = 32 then
      ms_nm (ms_si σ l0 29 ((ms_i σ l0 29) + 1)) fun s2 =>
      (f_X12_scan_0 n) s2 l0
    else
      (f_X12_byteAt σ l0 (ms_i σ l0 29)).bind fun v3 =>
      if v3 = 10 then
        ms_nm (ms_si σ l0 29 ((ms_i σ l0 29) + 1)) fun s16 =>
        (f_X12_scan_0 n) s16 l0
      else
        ms_nm (ms_si σ l0 30 (ms_i σ l0 29)) fun s4 =>
        if (ms_i s4 l0 29) < (ms_i s4 l0 28) then
          (f_X12_isLetter s4 l0 (ms_i s4 l0 29)).bind fun v5 =>
          if v5 = 0 then
            (f_X12_isDigit s4 l0 (ms_i s4 l0 29)).bind fun v6 =>
            if v6 = 0 then
              ms_nm (ms_si s4 l0 29 ((ms_i s4 l0 29) + 1)) fun s7 =>
              ms_nm (ms_si s7 l0 31 3) fun s8 =>
              some s8
            else
              f_X12_scan_120 ms_fuel s4 l0
          else
            f_X12_scan_77 ms_fuel s4 l0
        else
          ms_nm (ms_si s4 l0 31 0) fun s15 =>
          some s15
def f_X12_scan  (σ : MsSt) (l0 : Nat) : Option (MsSt) :=
  f_X12_scan_0 ms_fuel σ l0
def f_X12_startText  (σ : MsSt) (l0 : Nat) (l1 : Int32) : Option (MsSt) :=
  ms_nm (ms_si σ l0 28 l1) fun s1 =>
  ms_nm (ms_si s1 l0 29 0) fun s2 =>
  ms_nm (ms_si s2 l0 32 0) fun s3 =>
  ms_nm (ms_si s3 l0 35 0) fun s4 =>
  (f_X12_scan s4 l0).bind fun s5 =>
  some s5
def f_X12_finish  (σ : MsSt) (l0 : Nat) : Option (Int32 × MsSt) :=
  ms_nm (ms_si σ l0 27 0) fun s1 =>
  if (ms_i s1 l0 32) = 0 then
    ms_nm (ms_si s1 l0 34 (-1)) fun s3 =>
    some ((ms_i s3 l0 32), s3)
  else
    ms_nm (ms_si s1 l0 34 (ms_i s1 l0 33)) fun s2 =>
    some ((ms_i s2 l0 32), s2)
def f_X12_flaw  (σ : MsSt) (l0 : Nat) (l1 : Int32) : Option (MsSt) :=
  if (ms_i σ l0 32) = 0 then
    ms_nm (ms_si σ l0 32 l1) fun s1 =>
    ms_nm (ms_si s1 l0 33 (ms_i s1 l0 30)) fun s2 =>
    some s2
  else
    some σ
def f_X12_check  (σ : MsSt) (l0 : Nat) (l1 : Int32) (l2 : Int32) : Option (MsSt) :=
  if l1 = 0 then
    (f_X12_flaw σ l0 l2).bind fun s1 =>
    some s1
  else
    some σ
def f_X12_advance  (σ : MsSt) (l0 : Nat) : Option (MsSt) :=
  if (ms_i σ l0 32) = 0 then
    (f_X12_scan σ l0).bind fun s1 =>
    some s1
  else
    some σ
def f_X12_isSymbol  (σ : MsSt) (l0 : Nat) (l1 : Int32) : Option (Int32) :=
  if (ms_i σ l0 32) = 0 then
    if (ms_i σ l0 31) = 3 then
      (ms_ald σ (ms_rf l0 26) (ms_i σ l0 30)).bind fun v1 =>
      if v1 = l1 then
        some 1
      else
        some 0
    else
      some 0
  else
    some 0
def f_X12_isWord_39  (σ : MsSt) : Nat → Nat → Nat → Int32 → Int32 → Option (Int32)
  | 0, _, _, _, _ => none
  | n + 1, l0, l1, l2, l3 =>
    if l2 = 0 then
      (ms_bz l2).bind fun v1 =>
      some v1
    else
      (f_J0_length_8abf5 σ l1).bind fun v2 =>
      if l3 < v2 then
        (f_J0_charAt_5068e σ l1 l3).bind fun v4 =>
        (ms_ald σ (ms_rf l0 26) ((ms_i σ l0 30) + l3)).bind fun v5 =>
        if v4 = v5 then
          (f_X12_isWord_39 σ n) l0 l1 1 (l3 + 1)
        else
          (f_X12_isWord_39 σ n) l0 l1 0 (l3 + 1)
      else
        (ms_bz l2).bind fun v3 =>
        some v3
def f_X12_isWord  (σ : MsSt) (l0 : Nat) (l1 : Nat) : Option (Int32) :=
  if (ms_i σ l0 32) = 0 then
    if (ms_i σ l0 31) = 1 then
      (f_J0_length_8abf5 σ l1).bind fun v6 =>
      if v6 = ((ms_i σ l0 29) - (ms_i σ l0 30)) then
        f_X12_isWord_39 σ ms_fuel l0 l1 1 0
      else
        f_X12_isWord_39 σ ms_fuel l0 l1 0 0
    else
      f_X12_isWord_39 σ ms_fuel l0 l1 0 0
  else
    f_X12_isWord_39 σ ms_fuel l0 l1 0 0
def f_X12_accept  (σ : MsSt) (l0 : Nat) (l1 : Nat) : Option (Int32 × MsSt) :=
  (f_X12_isWord σ l0 l1).bind fun v1 =>
  if v1 = 0 then
    (ms_bz v1).bind fun v2 =>
    some (v2, σ)
  else
    (f_X12_scan σ l0).bind fun s3 =>
    (ms_bz v1).bind fun v4 =>
    some (v4, s3)
def f_X12_expectWord  (σ : MsSt) (l0 : Nat) (l1 : Nat) : Option (MsSt) :=
  (f_X12_isWord σ l0 l1).bind fun v1 =>
  (f_X12_check σ l0 v1 1).bind fun s2 =>
  (f_X12_advance s2 l0).bind fun s3 =>
  some s3
def f_X12_expect  (σ : MsSt) (l0 : Nat) (l1 : Int32) : Option (MsSt) :=
  (f_X12_isSymbol σ l0 l1).bind fun v1 =>
  (f_X12_check σ l0 v1 1).bind fun s2 =>
  (f_X12_advance s2 l0).bind fun s3 =>
  some s3
def f_X12_value_7  (σ : MsSt) : Nat → Nat → Int32 → Int32 → Option (Int32)
  | 0, _, _, _ => none
  | n + 1, l0, l1, l2 =>
    if l2 < (ms_i σ l0 29) then
      if (ms_i σ l0 31) = 2 then
        (ms_ald σ (ms_rf l0 26) l2).bind fun v1 =>
        ms_nm ((if (((10 * l1.toInt64) + v1.toInt64) - 48) < 2000000000 then (((10 * l1.toInt64) + v1.toInt64) - 48) else 2000000000).toInt32 : Int32) fun v2 =>
        (f_X12_value_7 σ n) l0 v2 (l2 + 1)
      else
        some l1
    else
      some l1
def f_X12_value  (σ : MsSt) (l0 : Nat) : Option (Int32) :=
  f_X12_value_7 σ ms_fuel l0 0 (ms_i σ l0 30)
def f_X12_readNumber_55   (σ : MsSt) (l0 : Nat) (l1 : Int32) (l3 : Int32) (t0 : Int32) (t1 : Nat) : Option (Int32 × MsSt) :=
  (f_X12_check σ t1 t0 2).bind fun s3 =>
  (f_X12_advance s3 l0).bind fun s4 =>
  if (ms_i s4 l0 32) = 0 then
    some (l3, s4)
  else
    some (l1, s4)
def f_X12_readNumber_50   (σ : MsSt) (l0 : Nat) (l1 : Int32) (l3 : Int32) (t0 : Nat) : Option (Int32 × MsSt) :=
  f_X12_readNumber_55 σ l0 l1 l3 1 t0
def f_X12_readNumber_21   (σ : MsSt) (l0 : Nat) (l1 : Int32) (l2 : Int32) (t0 : Int32) (t1 : Nat) : Option (Int32 × MsSt) :=
  (f_X12_check σ t1 t0 1).bind fun s1 =>
  (f_X12_value s1 l0).bind fun v2 =>
  if (ms_i s1 l0 32) = 0 then
    (f_X12_inRange s1 v2.toInt64 l1.toInt64 l2.toInt64).bind fun v5 =>
    if v5 = 0 then
      f_X12_readNumber_55 s1 l0 l1 v2 0 l0
    else
      f_X12_readNumber_50 s1 l0 l1 v2 l0
  else
    f_X12_readNumber_50 s1 l0 l1 v2 l0
def f_X12_readNumber_16   (σ : MsSt) (l0 : Nat) (l1 : Int32) (l2 : Int32) (t0 : Nat) : Option (Int32 × MsSt) :=
  f_X12_readNumber_21 σ l0 l1 l2 1 t0
def f_X12_readNumber  (σ : MsSt) (l0 : Nat) (l1 : Int32) (l2 : Int32) : Option (Int32 × MsSt) :=
  if (ms_i σ l0 32) = 0 then
    if (ms_i σ l0 31) = 2 then
      f_X12_readNumber_16 σ l0 l1 l2 l0
    else
      f_X12_readNumber_21 σ l0 l1 l2 0 l0
  else
    f_X12_readNumber_16 σ l0 l1 l2 l0
def f_X12_isNameHere_36  (σ : MsSt) : Nat → Nat → Int32 → Int32 → Option (Int32)
  | 0, _, _, _ => none
  | n + 1, l0, l1, l2 =>
    if l2 < (Int32.ofNat (ms_ln (ms_rf l0 36))) then
      if l1 = 0 then
        (ms_bz l1).bind fun v2 =>
        some v2
      else
        (ms_ala (ms_rf l0 36) l2).bind fun v3 =>
        (f_X12_isWord σ l0 v3).bind fun v4 =>
        if v4 = 0 then
          (f_X12_isNameHere_36 σ n) l0 1 (l2 + 1)
        else
          (f_X12_isNameHere_36 σ n) l0 0 (l2 + 1)
    else
      (ms_bz l1).bind fun v1 =>
      some v1
def f_X12_isNameHere  (σ : MsSt) (l0 : Nat) : Option (Int32) :=
  if (ms_i σ l0 32) = 0 then
    if (ms_i σ l0 31) = 1 then
      if 4 < ((ms_i σ l0 29) - (ms_i σ l0 30)) then
        f_X12_isNameHere_36 σ ms_fuel l0 0 0
      else
        f_X12_isNameHere_36 σ ms_fuel l0 1 0
    else
      f_X12_isNameHere_36 σ ms_fuel l0 0 0
  else
    f_X12_isNameHere_36 σ ms_fuel l0 0 0
def f_X12_letterHere  (σ : MsSt) (l0 : Nat) (l1 : Int32) : Option (Int32) :=
  if ((ms_i σ l0 30) + l1) < (ms_i σ l0 29) then
    (ms_ald σ (ms_rf l0 26) ((ms_i σ l0 30) + l1)).bind fun v1 =>
    some v1
  else
    some 0
def f_X12_named_16  (σ : MsSt) (k2 : Nat → Int32 → Option (Int32)) : Nat → Nat → Int32 → Int32 → Int32 → Option (Int32)
  | 0, _, _, _, _ => none
  | n + 1, l0, l1, l2, l3 =>
    if l3 < 4 then
      if l2 = 0 then
        (f_X12_named_16 σ k2 n) l0 l1 0 (l3 + 1)
      else
        (ms_ald σ (ms_rf l0 5) ((4 * l1) + l3)).bind fun v2 =>
        (f_X12_letterHere σ l0 l3).bind fun v3 =>
        if v2 = v3 then
          (f_X12_named_16 σ k2 n) l0 l1 1 (l3 + 1)
        else
          (f_X12_named_16 σ k2 n) l0 l1 0 (l3 + 1)
    else
      if l2 = 0 then
        k2 l0 (l1 + 1)
      else
        some l1
def f_X12_named_2  (σ : MsSt) : Nat → Nat → Int32 → Option (Int32)
  | 0, _, _ => none
  | n + 1, l0, l1 =>
    (ms_ald σ (ms_rf l0 1) 0).bind fun v1 =>
    if l1 < v1 then
      f_X12_named_16 σ (f_X12_named_2 σ n) ms_fuel l0 l1 1 0
    else
      some (-1)
def f_X12_named  (σ : MsSt) (l0 : Nat) : Option (Int32) :=
  f_X12_named_2 σ ms_fuel l0 0
def f_X12_readName_36   : Nat → MsSt → Nat → Int32 → Option (MsSt)
  | 0, _, _, _ => none
  | n + 1, σ, l0, l1 =>
    if l1 < 4 then
      if (ms_i σ l0 32) = 0 then
        (ms_ald σ (ms_rf l0 1) 0).bind fun v6 =>
        (f_X12_letterHere σ l0 l1).bind fun v7 =>
        (ms_ast σ (ms_rf l0 5) ((4 * v6) + l1) v7).bind fun s8 =>
        (f_X12_readName_36 n) s8 l0 (l1 + 1)
      else
        (f_X12_advance σ l0).bind fun s5 =>
        some s5
    else
      (f_X12_advance σ l0).bind fun s4 =>
      some s4
def f_X12_readName  (σ : MsSt) (l0 : Nat) : Option (MsSt) :=
  (f_X12_isNameHere σ l0).bind fun v1 =>
  (f_X12_check σ l0 v1 1).bind fun s2 =>
  if (ms_i s2 l0 32) = 0 then
    (f_X12_named s2 l0).bind fun v9 =>
    if v9 = (-1) then
      (f_X12_check s2 l0 1 3).bind fun s11 =>
      f_X12_readName_36 ms_fuel s11 l0 0
    else
      (f_X12_check s2 l0 0 3).bind fun s10 =>
      f_X12_readName_36 ms_fuel s10 l0 0
  else
    (f_X12_check s2 l0 1 3).bind fun s3 =>
    f_X12_readName_36 ms_fuel s3 l0 0
def f_X12_lookSign_24   (σ : MsSt) (l0 : Nat) (t0 : Int32) : Option (Int32 × MsSt) :=
  if (ms_i σ l0 32) = 0 then
    if t0 = (-1) then
      (f_X12_check σ l0 0 4).bind fun s4 =>
      some (t0, s4)
    else
      (f_X12_check σ l0 1 4).bind fun s5 =>
      some (t0, s5)
  else
    (f_X12_check σ l0 1 4).bind fun s3 =>
    some (t0, s3)
def f_X12_lookSign  (σ : MsSt) (l0 : Nat) : Option (Int32 × MsSt) :=
  (f_X12_isNameHere σ l0).bind fun v1 =>
  (f_X12_check σ l0 v1 1).bind fun s2 =>
  if (ms_i s2 l0 32) = 0 then
    (f_X12_named s2 l0).bind fun v6 =>
    f_X12_lookSign_24 s2 l0 v6
  else
    f_X12_lookSign_24 s2 l0 (-1)
def f_X12_sideHere  (σ : MsSt) (l0 : Nat) : Option (Int32) :=
  (f_X12_isWord σ l0 641).bind fun v1 =>
  if v1 = 0 then
    (f_X12_isWord σ l0 642).bind fun v2 =>
    if v2 = 0 then
      (f_X12_isWord σ l0 643).bind fun v3 =>
      if v3 = 0 then
        some (-1)
      else
        some 2
    else
      some 1
  else
    some 0
def f_X12_isSideOf_2  (σ : MsSt) : Nat → Nat → Int32 → Int32 → Int32 → Option (Int32)
  | 0, _, _, _, _ => none
  | n + 1, l0, l1, l2, l3 =>
    (ms_ald σ (ms_rf l0 1) 0).bind fun v1 =>
    if l3 < v1 then
      (f_X12_of σ l3 0).bind fun v2 =>
      (ms_ald σ (ms_rf l0 1) v2).bind fun v3 =>
      if v3 = 1 then
        (f_X12_of σ l3 1).bind fun v4 =>
        (ms_ald σ (ms_rf l0 1) v4).bind fun v5 =>
        if v5 = l1 then
          (f_X12_of σ l3 6).bind fun v6 =>
          (ms_ald σ (ms_rf l0 1) v6).bind fun v7 =>
          if v7 = l2 then
            (f_X12_isSideOf_2 σ n) l0 l1 l2 (l3 + 1)
          else
            some 0
        else
          (f_X12_isSideOf_2 σ n) l0 l1 l2 (l3 + 1)
      else
        (f_X12_isSideOf_2 σ n) l0 l1 l2 (l3 + 1)
    else
      some 1
def f_X12_isSideOf  (σ : MsSt) (l0 : Nat) (l1 : Int32) (l2 : Int32) : Option (Int32) :=
  f_X12_isSideOf_2 σ ms_fuel l0 l1 l2 0
def f_X12_readBase  (σ : MsSt) (l0 : Nat) (l1 : Int32) : Option (MsSt) :=
  (f_X12_readName σ l0).bind fun s1 =>
  (f_X12_of s1 l1 3).bind fun v2 =>
  ms_b2 (f_X12_readNumber s1 l0 1 20) fun v3 s4 =>
  (ms_ast s4 (ms_rf l0 1) v2 v3).bind fun s5 =>
  (f_X12_of s5 l1 4).bind fun v6 =>
  ms_b2 (f_X12_readNumber s5 l0 1 20) fun v7 s8 =>
  (ms_ast s8 (ms_rf l0 1) v6 v7).bind fun s9 =>
  (f_X12_of s9 l1 5).bind fun v10 =>
  ms_b2 (f_X12_readNumber s9 l0 0 20) fun v11 s12 =>
  (ms_ast s12 (ms_rf l0 1) v10 v11).bind fun s13 =>
  (f_X12_of s13 l1 6).bind fun v14 =>
  ms_b2 (f_X12_readNumber s13 l0 0 20) fun v15 s16 =>
  (ms_ast s16 (ms_rf l0 1) v14 v15).bind fun s17 =>
  some s17
def f_X12_readMark_54   (σ : MsSt) (l0 : Nat) (l1 : Int32) (l2 : Int32) (l3 : Int32) (t0 : Int32) (t1 : Nat) : Option (MsSt) :=
  (f_X12_check σ t1 t0 4).bind fun s6 =>
  (f_X12_advance s6 l0).bind fun s7 =>
  (f_X12_of s7 l1 0).bind fun v8 =>
  (ms_ast s7 (ms_rf l0 1) v8 1).bind fun s9 =>
  (f_X12_of s9 l1 1).bind fun v10 =>
  (ms_ast s9 (ms_rf l0 1) v10 l2).bind fun s11 =>
  (f_X12_of s11 l1 3).bind fun v12 =>
  ms_b2 (f_X12_readNumber s11 l0 1 9) fun v13 s14 =>
  (ms_ast s14 (ms_rf l0 1) v12 v13).bind fun s15 =>
  (f_X12_of s15 l1 4).bind fun v16 =>
  ms_b2 (f_X12_readNumber s15 l0 1 9) fun v17 s18 =>
  (ms_ast s18 (ms_rf l0 1) v16 v17).bind fun s19 =>
  (f_X12_of s19 l1 5).bind fun v20 =>
  ms_b2 (f_X12_readNumber s19 l0 0 9) fun v21 s22 =>
  (ms_ast s22 (ms_rf l0 1) v20 v21).bind fun s23 =>
  (f_X12_of s23 l1 6).bind fun v24 =>
  (ms_ast s23 (ms_rf l0 1) v24 l3).bind fun s25 =>
  some s25
def f_X12_readMark_49   (σ : MsSt) (l0 : Nat) (l1 : Int32) (l2 : Int32) (l3 : Int32) (t0 : Nat) : Option (MsSt) :=
  f_X12_readMark_54 σ l0 l1 l2 l3 1 t0
def f_X12_readMark_28   (σ : MsSt) (l0 : Nat) (l1 : Int32) (l2 : Int32) (l3 : Int32) (t0 : Int32) (t1 : Nat) : Option (MsSt) :=
  (f_X12_check σ t1 t0 1).bind fun s5 =>
  if (ms_i s5 l0 32) = 0 then
    (f_X12_isSideOf s5 l0 l2 l3).bind fun v26 =>
    if v26 = 0 then
      f_X12_readMark_54 s5 l0 l1 l2 l3 0 l0
    else
      f_X12_readMark_49 s5 l0 l1 l2 l3 l0
  else
    f_X12_readMark_49 s5 l0 l1 l2 l3 l0
def f_X12_readMark  (σ : MsSt) (l0 : Nat) (l1 : Int32) : Option (MsSt) :=
  (f_X12_readName σ l0).bind fun s1 =>
  ms_b2 (f_X12_readNumber s1 l0 1 60) fun v2 s3 =>
  (f_X12_sideHere s3 l0).bind fun v4 =>
  if v4 = (-1) then
    f_X12_readMark_28 s3 l0 l1 v2 v4 0 l0
  else
    f_X12_readMark_28 s3 l0 l1 v2 v4 1 l0
def f_X12_readPair_136   (σ : MsSt) (l0 : Nat) (l1 : Int32) (l2 : Int32) (l3 : Int32) (t0 : Int32) (t1 : Nat) : Option (MsSt) :=
  (f_X12_check σ t1 t0 4).bind fun s10 =>
  (f_X12_advance s10 l0).bind fun s11 =>
  ms_b2 (f_X12_accept s11 l0 644) fun v12 s13 =>
  (f_X12_of s13 l1 0).bind fun v14 =>
  (ms_ast s13 (ms_rf l0 1) v14 2).bind fun s15 =>
  (f_X12_of s15 l1 3).bind fun v16 =>
  (ms_ast s15 (ms_rf l0 1) v16 l2).bind fun s17 =>
  (f_X12_of s17 l1 4).bind fun v18 =>
  (ms_ast s17 (ms_rf l0 1) v18 l3).bind fun s19 =>
  (f_X12_of s19 l1 5).bind fun v20 =>
  if v12 = 0 then
    (ms_ast s19 (ms_rf l0 1) v20 0).bind fun s21 =>
    some s21
  else
    (ms_ast s19 (ms_rf l0 1) v20 1).bind fun s22 =>
    some s22
def f_X12_readPair_131   (σ : MsSt) (l0 : Nat) (l1 : Int32) (l2 : Int32) (l3 : Int32) (t0 : Nat) : Option (MsSt) :=
  f_X12_readPair_136 σ l0 l1 l2 l3 1 t0
def f_X12_readPair_105   (σ : MsSt) (l0 : Nat) (l1 : Int32) (l2 : Int32) (l3 : Int32) (t0 : Int32) (t1 : Nat) : Option (MsSt) :=
  (f_X12_check σ t1 t0 3).bind fun s9 =>
  if (ms_i s9 l0 32) = 0 then
    (f_X12_of s9 l3 0).bind fun v23 =>
    (ms_ald s9 (ms_rf l0 1) v23).bind fun v24 =>
    if v24 = 1 then
      f_X12_readPair_131 s9 l0 l1 l2 l3 l0
    else
      f_X12_readPair_136 s9 l0 l1 l2 l3 0 l0
  else
    f_X12_readPair_131 s9 l0 l1 l2 l3 l0
def f_X12_readPair_100   (σ : MsSt) (l0 : Nat) (l1 : Int32) (l2 : Int32) (l3 : Int32) (t0 : Nat) : Option (MsSt) :=
  f_X12_readPair_105 σ l0 l1 l2 l3 1 t0
def f_X12_readPair_66   (σ : MsSt) (l0 : Nat) (l1 : Int32) (l2 : Int32) (t0 : Int32) (t1 : Nat) : Option (MsSt) :=
  (f_X12_check σ t1 t0 5).bind fun s5 =>
  (f_X12_advance s5 l0).bind fun s6 =>
  ms_b2 (f_X12_lookSign s6 l0) fun v7 s8 =>
  if (ms_i s8 l0 32) = 0 then
    (f_X12_findPair s8 (ms_rf l0 1) l2 v7).bind fun v25 =>
    if v25 = (-1) then
      f_X12_readPair_100 s8 l0 l1 l2 v7 l0
    else
      f_X12_readPair_105 s8 l0 l1 l2 v7 0 l0
  else
    f_X12_readPair_100 s8 l0 l1 l2 v7 l0
def f_X12_readPair_61   (σ : MsSt) (l0 : Nat) (l1 : Int32) (l2 : Int32) (t0 : Nat) : Option (MsSt) :=
  f_X12_readPair_66 σ l0 l1 l2 1 t0
def f_X12_readPair_36   (σ : MsSt) (l0 : Nat) (l1 : Int32) (l2 : Int32) (t0 : Int32) (t1 : Nat) : Option (MsSt) :=
  (f_X12_check σ t1 t0 4).bind fun s4 =>
  if (ms_i s4 l0 32) = 0 then
    (f_X12_parts s4 (ms_rf l0 1) l2).bind fun v26 =>
    if v26 < 6 then
      f_X12_readPair_61 s4 l0 l1 l2 l0
    else
      f_X12_readPair_66 s4 l0 l1 l2 0 l0
  else
    f_X12_readPair_61 s4 l0 l1 l2 l0
def f_X12_readPair_31   (σ : MsSt) (l0 : Nat) (l1 : Int32) (l2 : Int32) (t0 : Nat) : Option (MsSt) :=
  f_X12_readPair_36 σ l0 l1 l2 1 t0
def f_X12_readPair  (σ : MsSt) (l0 : Nat) (l1 : Int32) : Option (MsSt) :=
  (f_X12_readName σ l0).bind fun s1 =>
  ms_b2 (f_X12_lookSign s1 l0) fun v2 s3 =>
  if (ms_i s3 l0 32) = 0 then
    (f_X12_of s3 v2 0).bind fun v27 =>
    (ms_ald s3 (ms_rf l0 1) v27).bind fun v28 =>
    if v28 = 1 then
      f_X12_readPair_36 s3 l0 l1 v2 0 l0
    else
      f_X12_readPair_31 s3 l0 l1 v2 l0
  else
    f_X12_readPair_31 s3 l0 l1 v2 l0
def f_X12_isSignHere  (σ : MsSt) (l0 : Nat) : Option (Int32) :=
  (f_X12_isWord σ l0 630).bind fun v1 =>
  if v1 = 0 then
    (f_X12_isWord σ l0 631).bind fun v2 =>
    if v2 = 0 then
      (f_X12_isWord σ l0 632).bind fun v3 =>
      if v3 = 0 then
        some 0
      else
        some 1
    else
      some 1
  else
    some 1
def f_X12_readSign_81   (σ : MsSt) (l0 : Nat) : Option (MsSt) :=
  (ms_ald σ (ms_rf l0 1) 0).bind fun v10 =>
  (ms_ast σ (ms_rf l0 1) 0 (v10 + 1)).bind fun s11 =>
  (f_X12_expect s11 l0 59).bind fun s12 =>
  some s12
def f_X12_readSign_17   (σ : MsSt) (l0 : Nat) (t0 : Int32) (t1 : Nat) : Option (MsSt) :=
  (f_X12_check σ t1 t0 5).bind fun s2 =>
  if (ms_i s2 l0 32) = 0 then
    (ms_ald s2 (ms_rf l0 1) 0).bind fun v3 =>
    ms_b2 (f_X12_accept s2 l0 630) fun v4 s5 =>
    if v4 = 0 then
      ms_b2 (f_X12_accept s5 l0 631) fun v6 s7 =>
      if v6 = 0 then
        (f_X12_expectWord s7 l0 632).bind fun s8 =>
        (f_X12_readPair s8 l0 v3).bind fun s9 =>
        f_X12_readSign_81 s9 l0
      else
        (f_X12_readMark s7 l0 v3).bind fun s13 =>
        f_X12_readSign_81 s13 l0
    else
      (f_X12_readBase s5 l0 v3).bind fun s14 =>
      f_X12_readSign_81 s14 l0
  else
    some s2
def f_X12_readSign  (σ : MsSt) (l0 : Nat) : Option (MsSt) :=
  (ms_ald σ (ms_rf l0 1) 0).bind fun v1 =>
  if v1 < 40 then
    f_X12_readSign_17 σ l0 1 l0
  else
    f_X12_readSign_17 σ l0 0 l0
def f_X12_readLine_113  (k67 : MsSt → Nat → Int32 → Option (MsSt)) (σ : MsSt) (l0 : Nat) (l1 : Int32) (l2 : Int32) (t0 : Int32) (t1 : Nat) : Option (MsSt) :=
  (f_X12_check σ t1 t0 5).bind fun s12 =>
  if (ms_i s12 l0 32) = 0 then
    (ms_ald s12 (ms_rf l0 1) (3 + l1)).bind fun v14 =>
    (f_X12_spot s12 l1 v14).bind fun v15 =>
    (ms_ast s12 (ms_rf l0 1) v15 l2).bind fun s16 =>
    (ms_ald s16 (ms_rf l0 1) (3 + l1)).bind fun v17 =>
    (ms_ast s16 (ms_rf l0 1) (3 + l1) (v17 + 1)).bind fun s18 =>
    (f_X12_advance s18 l0).bind fun s19 =>
    k67 s19 l0 l1
  else
    (f_X12_advance s12 l0).bind fun s13 =>
    k67 s13 l0 l1
def f_X12_readLine_108  (k67 : MsSt → Nat → Int32 → Option (MsSt)) (σ : MsSt) (l0 : Nat) (l1 : Int32) (l2 : Int32) (t0 : Nat) : Option (MsSt) :=
  f_X12_readLine_113 k67 σ l0 l1 l2 1 t0
def f_X12_readLine_67   : Nat → MsSt → Nat → Int32 → Option (MsSt)
  | 0, _, _, _ => none
  | n + 1, σ, l0, l1 =>
    if (ms_i σ l0 32) = 0 then
      if (ms_i σ l0 31) = 1 then
        ms_b2 (f_X12_lookSign σ l0) fun v10 s11 =>
        if (ms_i s11 l0 32) = 0 then
          (ms_ald s11 (ms_rf l0 1) (3 + l1)).bind fun v20 =>
          if v20 < 60 then
            f_X12_readLine_108 (f_X12_readLine_67 n) s11 l0 l1 v10 l0
          else
            f_X12_readLine_113 (f_X12_readLine_67 n) s11 l0 l1 v10 0 l0
        else
          f_X12_readLine_108 (f_X12_readLine_67 n) s11 l0 l1 v10 l0
      else
        (f_X12_expect σ l0 59).bind fun s9 =>
        some s9
    else
      (f_X12_expect σ l0 59).bind fun s8 =>
      some s8
def f_X12_readLine_34   (σ : MsSt) (l0 : Nat) (t0 : Int32) (t1 : Nat) : Option (MsSt) :=
  (f_X12_check σ t1 t0 5).bind fun s3 =>
  if (ms_i s3 l0 32) = 0 then
    (ms_ald s3 (ms_rf l0 1) 1).bind fun v4 =>
    (ms_ald s3 (ms_rf l0 1) 1).bind fun v5 =>
    (ms_ast s3 (ms_rf l0 1) 1 (v5 + 1)).bind fun s6 =>
    (f_X12_advance s6 l0).bind fun s7 =>
    f_X12_readLine_67 ms_fuel s7 l0 v4
  else
    some s3
def f_X12_readLine_29   (σ : MsSt) (l0 : Nat) (t0 : Nat) : Option (MsSt) :=
  f_X12_readLine_34 σ l0 1 t0
def f_X12_readLine  (σ : MsSt) (l0 : Nat) : Option (MsSt) :=
  (f_X12_isWord σ l0 633).bind fun v1 =>
  (f_X12_check σ l0 v1 1).bind fun s2 =>
  if (ms_i s2 l0 32) = 0 then
    (ms_ald s2 (ms_rf l0 1) 1).bind fun v21 =>
    if v21 < 4 then
      f_X12_readLine_29 s2 l0 l0
    else
      f_X12_readLine_34 s2 l0 0 l0
  else
    f_X12_readLine_29 s2 l0 l0
def f_X12_readAll_82   (σ : MsSt) (l0 : Nat) : Option (MsSt) :=
  if (ms_i σ l0 32) = 0 then
    if (ms_i σ l0 31) = 0 then
      (f_X12_check σ l0 1 1).bind fun s6 =>
      some s6
    else
      (f_X12_check σ l0 0 1).bind fun s5 =>
      some s5
  else
    (f_X12_check σ l0 1 1).bind fun s4 =>
    some s4
def f_X12_readAll_48   (σ : MsSt) (l0 : Nat) : Option (MsSt) :=
  ms_b2 (f_X12_accept σ l0 634) fun v2 s3 =>
  if v2 = 0 then
    f_X12_readAll_82 s3 l0
  else
    (ms_ald s3 (ms_rf l0 1) 1).bind fun v7 =>
    ms_b2 (f_X12_readNumber s3 l0 0 (v7 - 1)) fun v8 s9 =>
    (ms_ast s9 (ms_rf l0 1) 2 v8).bind fun s10 =>
    (f_X12_expect s10 l0 59).bind fun s11 =>
    f_X12_readAll_82 s11 l0
def f_X12_readAll_25   : Nat → MsSt → Nat → Option (MsSt)
  | 0, _, _ => none
  | n + 1, σ, l0 =>
    if (ms_i σ l0 32) = 0 then
      (f_X12_isWord σ l0 633).bind fun v12 =>
      if v12 = 0 then
        f_X12_readAll_48 σ l0
      else
        (f_X12_readLine σ l0).bind fun s13 =>
        (f_X12_readAll_25 n) s13 l0
    else
      f_X12_readAll_48 σ l0
def f_X12_readAll_0   : Nat → MsSt → Nat → Option (MsSt)
  | 0, _, _ => none
  | n + 1, σ, l0 =>
    if (ms_i σ l0 32) = 0 then
      (f_X12_isSignHere σ l0).bind fun v14 =>
      if v14 = 0 then
        (f_X12_readLine σ l0).bind fun s15 =>
        f_X12_readAll_25 ms_fuel s15 l0
      else
        (f_X12_readSign σ l0).bind fun s16 =>
        (f_X12_readAll_0 n) s16 l0
    else
      (f_X12_readLine σ l0).bind fun s1 =>
      f_X12_readAll_25 ms_fuel s1 l0
def f_X12_readAll  (σ : MsSt) (l0 : Nat) : Option (MsSt) :=
  f_X12_readAll_0 ms_fuel σ l0
def f_X12_load_86   : Nat → MsSt → Nat → Int32 → Option (Int32 × MsSt)
  | 0, _, _, _ => none
  | n + 1, σ, l0, l2 =>
    if l2 < 160 then
      (ms_ald σ (ms_rf l0 5) l2).bind fun v11 =>
      (ms_ast σ (ms_rf l0 4) l2 v11).bind fun s12 =>
      (f_X12_load_86 n) s12 l0 (l2 + 1)
    else
      ms_nm (ms_si σ l0 6 0) fun s8 =>
      ms_nm (ms_si s8 l0 8 0) fun s9 =>
      (ms_ald s9 (ms_rf l0 0) 0).bind fun v10 =>
      some (v10, s9)
def f_X12_load_27   : Nat → MsSt → Nat → Int32 → Int32 → Option (Int32 × MsSt)
  | 0, _, _, _, _ => none
  | n + 1, σ, l0, l1, l2 =>
    if l2 < 527 then
      (ms_ast σ (ms_rf l0 1) l2 0).bind fun s13 =>
      (f_X12_load_27 n) s13 l0 l1 (l2 + 1)
    else
      (f_X12_startText σ l0 l1).bind fun s3 =>
      (f_X12_readAll s3 l0).bind fun s4 =>
      ms_b2 (f_X12_finish s4 l0) fun v5 s6 =>
      if v5 = 0 then
        (f_X12_copy s6 (ms_rf l0 1) 0 (ms_rf l0 0) 0).bind fun s7 =>
        f_X12_load_86 ms_fuel s7 l0 0
      else
        some (((-10) - (ms_i s6 l0 32)), s6)
def f_X12_load  (σ : MsSt) (l0 : Nat) (l1 : Int32) : Option (Int32 × MsSt) :=
  ms_nm (ms_si σ l0 7 0) fun s1 =>
  (f_X12_inRange s1 l1.toInt64 0 ((ms_i s1 l0 27).toInt64)).bind fun v2 =>
  if v2 = 0 then
    ms_b2 (f_X12_raise s1 l0 1) fun v14 s15 =>
    some (v14, s15)
  else
    f_X12_load_27 ms_fuel s1 l0 l1 0
def f_X12_property  (σ : MsSt) (l0 : Nat) (l1 : Int32) (l2 : Int32) : Option (Int32) :=
  (ms_ald σ (ms_rf l0 0) 2).bind fun v1 =>
  (f_X12_spot σ v1 l1).bind fun v2 =>
  (ms_ald σ (ms_rf l0 0) v2).bind fun v3 =>
  if l2 = 0 then
    some l1
  else
  if l2 = 1 then
    some v3
  else
  if l2 = 2 then
    (f_X12_of σ v3 0).bind fun v6 =>
    (ms_ald σ (ms_rf l0 0) v6).bind fun v7 =>
    some v7
  else
  if l2 = 3 then
    (f_X12_of σ v3 1).bind fun v8 =>
    (ms_ald σ (ms_rf l0 0) v8).bind fun v9 =>
    some v9
  else
  if l2 = 4 then
    (f_X12_parts σ (ms_rf l0 0) v3).bind fun v10 =>
    some v10
  else
  (ms_ald σ (ms_rf l0 0) 2).bind fun v4 =>
  (f_X12_clusterAt σ l0 v4 l1).bind fun v5 =>
  some v5
def f_X12_emit  (σ : MsSt) (l0 : Nat) (l1 : Int32) : Option (MsSt) :=
  if (ms_i σ l0 32) = 0 then
    (ms_ast σ (ms_rf l0 38) (ms_i σ l0 40) l1).bind fun s1 =>
    ms_nm (ms_si s1 l0 40 ((ms_i s1 l0 40) + 1)) fun s2 =>
    some s2
  else
    some σ
def f_X12_enter_15   (σ : MsSt) (l0 : Nat) (t0 : Int32) (t1 : Nat) : Option (MsSt) :=
  (f_X12_check σ t1 t0 3).bind fun s1 =>
  ms_nm (ms_si s1 l0 35 ((ms_i s1 l0 35) + 1)) fun s2 =>
  (f_X12_advance s2 l0).bind fun s3 =>
  some s3
def f_X12_enter  (σ : MsSt) (l0 : Nat) : Option (MsSt) :=
  if (ms_i σ l0 35) < 6 then
    f_X12_enter_15 σ l0 1 l0
  else
    f_X12_enter_15 σ l0 0 l0
def f_X12_compileValue_73   (σ : MsSt) (l0 : Nat) (l1 : Int32) (t0 : Int32) (t1 : Nat) : Option (MsSt) :=
  (f_X12_check σ t1 t0 1).bind fun s4 =>
  (f_X12_emit s4 l0 ((-1) - l1)).bind fun s5 =>
  (f_X12_advance s5 l0).bind fun s6 =>
  some s6
def f_X12_compileValue_58   (σ : MsSt) (l0 : Nat) (l1 : Int32) : Option (MsSt) :=
  if l1 < (Int32.ofNat (ms_ln (ms_rf l0 37))) then
    f_X12_compileValue_73 σ l0 l1 1 l0
  else
    f_X12_compileValue_73 σ l0 l1 0 l0
def f_X12_compileValue_30   : Nat → MsSt → Nat → Int32 → Option (MsSt)
  | 0, _, _, _ => none
  | n + 1, σ, l0, l1 =>
    if l1 < (Int32.ofNat (ms_ln (ms_rf l0 37))) then
      (ms_ala (ms_rf l0 37) l1).bind fun v7 =>
      (f_X12_isWord σ l0 v7).bind fun v8 =>
      if v8 = 0 then
        (f_X12_compileValue_30 n) σ l0 (l1 + 1)
      else
        f_X12_compileValue_58 σ l0 l1
    else
      f_X12_compileValue_58 σ l0 l1
def f_X12_compileValue  (σ : MsSt) (l0 : Nat) : Option (MsSt) :=
  if (ms_i σ l0 32) = 0 then
    if (ms_i σ l0 31) = 2 then
      ms_b2 (f_X12_readNumber σ l0 0 9999) fun v9 s10 =>
      (f_X12_emit s10 l0 v9).bind fun s11 =>
      some s11
    else
      f_X12_compileValue_30 ms_fuel σ l0 0
  else
    ms_b2 (f_X12_readNumber σ l0 0 9999) fun v1 s2 =>
    (f_X12_emit s2 l0 v1).bind fun s3 =>
    some s3
def f_X12_compileFactor_143 (r_X12_compileFactor : MsSt → Nat → Option MsSt) (r_X12_compileTest : MsSt → Nat → Option MsSt)  (σ : MsSt) (l0 : Nat) (l1 : Int32) (t0 : Int32) (t1 : Nat) : Option (MsSt) :=
  (f_X12_check σ t1 t0 1).bind fun s6 =>
  (f_X12_advance s6 l0).bind fun s7 =>
  (f_X12_compileValue s7 l0).bind fun s8 =>
  (f_X12_emit s8 l0 l1).bind fun s9 =>
  some s9
def f_X12_compileFactor_138 (r_X12_compileFactor : MsSt → Nat → Option MsSt) (r_X12_compileTest : MsSt → Nat → Option MsSt)  (σ : MsSt) (l0 : Nat) (l1 : Int32) (t0 : Nat) : Option (MsSt) :=
  f_X12_compileFactor_143 r_X12_compileFactor r_X12_compileTest σ l0 l1 1 t0
def f_X12_compileFactor_121 (r_X12_compileFactor : MsSt → Nat → Option MsSt) (r_X12_compileTest : MsSt → Nat → Option MsSt)  (σ : MsSt) (l0 : Nat) (t0 : Int32) : Option (MsSt) :=
  if t0 = (-22) then
    (f_X12_isSymbol σ l0 62).bind fun v10 =>
    if v10 = 0 then
      f_X12_compileFactor_143 r_X12_compileFactor r_X12_compileTest σ l0 t0 0 l0
    else
      f_X12_compileFactor_138 r_X12_compileFactor r_X12_compileTest σ l0 t0 l0
  else
    f_X12_compileFactor_138 r_X12_compileFactor r_X12_compileTest σ l0 t0 l0
def f_X12_compileFactor_68 (r_X12_compileFactor : MsSt → Nat → Option MsSt) (r_X12_compileTest : MsSt → Nat → Option MsSt)  (σ : MsSt) (l0 : Nat) : Option (MsSt) :=
  (f_X12_expect σ l0 41).bind fun s12 =>
  ms_nm (ms_si s12 l0 35 ((ms_i s12 l0 35) - 1)) fun s13 =>
  some s13
def f_X12_compileFactor_25 (r_X12_compileFactor : MsSt → Nat → Option MsSt) (r_X12_compileTest : MsSt → Nat → Option MsSt)  (σ : MsSt) (l0 : Nat) : Option (MsSt) :=
  (f_X12_emit σ l0 (-23)).bind fun s16 =>
  ms_nm (ms_si s16 l0 35 ((ms_i s16 l0 35) - 1)) fun s17 =>
  some s17
def f_X12_compileFactor (r_X12_compileFactor : MsSt → Nat → Option MsSt) (r_X12_compileTest : MsSt → Nat → Option MsSt) (σ : MsSt) (l0 : Nat) : Option (MsSt) :=
  (f_X12_isWord σ l0 647).bind fun v1 =>
  if v1 = 0 then
    (f_X12_isSymbol σ l0 40).bind fun v2 =>
    if v2 = 0 then
      (f_X12_compileValue σ l0).bind fun s3 =>
      (f_X12_isSymbol s3 l0 60).bind fun v4 =>
      if v4 = 0 then
        (f_X12_isSymbol s3 l0 61).bind fun v5 =>
        if v5 = 0 then
          f_X12_compileFactor_121 r_X12_compileFactor r_X12_compileTest s3 l0 (-22)
        else
          f_X12_compileFactor_121 r_X12_compileFactor r_X12_compileTest s3 l0 (-21)
      else
        f_X12_compileFactor_121 r_X12_compileFactor r_X12_compileTest s3 l0 (-20)
    else
      (f_X12_enter σ l0).bind fun s11 =>
      if (ms_i s11 l0 32) = 0 then
        (r_X12_compileTest s11 l0).bind fun s14 =>
        f_X12_compileFactor_68 r_X12_compileFactor r_X12_compileTest s14 l0
      else
        f_X12_compileFactor_68 r_X12_compileFactor r_X12_compileTest s11 l0
  else
    (f_X12_enter σ l0).bind fun s15 =>
    if (ms_i s15 l0 32) = 0 then
      (r_X12_compileFactor s15 l0).bind fun s18 =>
      f_X12_compileFactor_25 r_X12_compileFactor r_X12_compileTest s18 l0
    else
      f_X12_compileFactor_25 r_X12_compileFactor r_X12_compileTest s15 l0
def f_X12_compileConjunction_4 (r_X12_compileFactor : MsSt → Nat → Option MsSt)  : Nat → MsSt → Nat → Option (MsSt)
  | 0, _, _ => none
  | n + 1, σ, l0 =>
    ms_b2 (f_X12_accept σ l0 648) fun v2 s3 =>
    if v2 = 0 then
      some s3
    else
      (r_X12_compileFactor s3 l0).bind fun s4 =>
      (f_X12_emit s4 l0 (-24)).bind fun s5 =>
      (f_X12_compileConjunction_4 r_X12_compileFactor n) s5 l0
def f_X12_compileConjunction (r_X12_compileFactor : MsSt → Nat → Option MsSt) (σ : MsSt) (l0 : Nat) : Option (MsSt) :=
  (r_X12_compileFactor σ l0).bind fun s1 =>
  f_X12_compileConjunction_4 r_X12_compileFactor ms_fuel s1 l0
def f_X12_compileTest_4 (r_X12_compileFactor : MsSt → Nat → Option MsSt)  : Nat → MsSt → Nat → Option (MsSt)
  | 0, _, _ => none
  | n + 1, σ, l0 =>
    ms_b2 (f_X12_accept σ l0 649) fun v2 s3 =>
    if v2 = 0 then
      some s3
    else
      (f_X12_compileConjunction r_X12_compileFactor s3 l0).bind fun s4 =>
      (f_X12_emit s4 l0 (-25)).bind fun s5 =>
      (f_X12_compileTest_4 r_X12_compileFactor n) s5 l0
def f_X12_compileTest (r_X12_compileFactor : MsSt → Nat → Option MsSt) (σ : MsSt) (l0 : Nat) : Option (MsSt) :=
  (f_X12_compileConjunction r_X12_compileFactor σ l0).bind fun s1 =>
  f_X12_compileTest_4 r_X12_compileFactor ms_fuel s1 l0
def rec_X12_compileFactor : Nat → MsSt → Nat → Option MsSt
  | 0 => fun _ _ => none
  | j + 1 => f_X12_compileFactor (rec_X12_compileFactor j) (f_X12_compileTest (rec_X12_compileFactor j))
def f_X12_operate  (σ : MsSt) (l0 : Int32) (l1 : Int64) (l3 : Int64) : Option (Int64) :=
  if l0 = (-24) then
    some (l1 &&& l3)
  else
  if l0 = (-23) then
    some (l1 ||| l3)
  else
  if l0 = (-22) then
    if 0 < (lg_cmp l1 l3) then
      some 1
    else
      some 0
  else
  if l0 = (-21) then
    if (lg_cmp l1 l3) = 0 then
      some 1
    else
      some 0
  else
  if l0 = (-20) then
    if (lg_cmp l1 l3) < 0 then
      some 1
    else
      some 0
  else
  some (l1 ||| l3)
def f_X12_holdsFor_4   : Nat → MsSt → Nat → Int32 → Int32 → Int32 → Option (Int32 × MsSt)
  | 0, _, _, _, _, _ => none
  | n + 1, σ, l0, l1, l2, l3 =>
    if l3 < (ms_i σ l0 40) then
      (ms_ald σ (ms_rf l0 38) l3).bind fun v2 =>
      if v2 = (-23) then
        (ms_alj σ (ms_rf l0 39) (l2 - 1)).bind fun v10 =>
        (ms_asj σ (ms_rf l0 39) (l2 - 1) (1 - v10)).bind fun s11 =>
        (f_X12_holdsFor_4 n) s11 l0 l1 l2 (l3 + 1)
      else
        if (-20) < v2 then
          if v2 < 0 then
            (f_X12_property σ l0 l1 ((-1) - v2)).bind fun v7 =>
            (ms_asj σ (ms_rf l0 39) l2 v7.toInt64).bind fun s8 =>
            (f_X12_holdsFor_4 n) s8 l0 l1 (l2 + 1) (l3 + 1)
          else
            (ms_asj σ (ms_rf l0 39) l2 v2.toInt64).bind fun s9 =>
            (f_X12_holdsFor_4 n) s9 l0 l1 (l2 + 1) (l3 + 1)
        else
          (ms_alj σ (ms_rf l0 39) ((l2 + (-1)) - 1)).bind fun v3 =>
          (ms_alj σ (ms_rf l0 39) (l2 + (-1))).bind fun v4 =>
          (f_X12_operate σ v2 v3 v4).bind fun v5 =>
          (ms_asj σ (ms_rf l0 39) ((l2 + (-1)) - 1) v5).bind fun s6 =>
          (f_X12_holdsFor_4 n) s6 l0 l1 (l2 + (-1)) (l3 + 1)
    else
      (ms_alj σ (ms_rf l0 39) 0).bind fun v1 =>
      if (lg_cmp v1 1) = 0 then
        some (1, σ)
      else
        some (0, σ)
def f_X12_holdsFor  (σ : MsSt) (l0 : Nat) (l1 : Int32) : Option (Int32 × MsSt) :=
  f_X12_holdsFor_4 ms_fuel σ l0 l1 0 0
def f_X12_query_126   : Nat → MsSt → Nat → Int32 → Int32 → Int32 → Option (Int32 × MsSt)
  | 0, _, _, _, _, _ => none
  | n + 1, σ, l0, l2, l3, l4 =>
    (ms_ald σ (ms_rf l0 0) 2).bind fun v12 =>
    (ms_ald σ (ms_rf l0 0) (3 + v12)).bind fun v13 =>
    if l4 < v13 then
      ms_b2 (f_X12_holdsFor σ l0 l4) fun v14 s15 =>
      if v14 = 0 then
        (f_X12_query_126 n) s15 l0 l2 l3 (l4 + 1)
      else
        if l2 = 0 then
          (f_X12_query_126 n) s15 l0 l2 (l3 + 1) (l4 + 1)
        else
          some (l4, s15)
    else
      if l2 = 0 then
        some (l3, σ)
      else
        some ((-1), σ)
def f_X12_query_101   (σ : MsSt) (l0 : Nat) (l2 : Int32) (t0 : Int32) (t1 : Nat) : Option (Int32 × MsSt) :=
  (f_X12_check σ t1 t0 1).bind fun s9 =>
  ms_b2 (f_X12_finish s9 l0) fun v10 s11 =>
  if v10 = 0 then
    f_X12_query_126 ms_fuel s11 l0 l2 0 0
  else
    some (((-1000000000) - (ms_i s11 l0 32)), s11)
def f_X12_query_96   (σ : MsSt) (l0 : Nat) (l2 : Int32) (t0 : Nat) : Option (Int32 × MsSt) :=
  f_X12_query_101 σ l0 l2 1 t0
def f_X12_query_69   (σ : MsSt) (l0 : Nat) (l2 : Int32) (t0 : Int32) (t1 : Nat) : Option (Int32 × MsSt) :=
  (f_X12_check σ t1 t0 1).bind fun s6 =>
  (f_X12_advance s6 l0).bind fun s7 =>
  (f_X12_compileTest (rec_X12_compileFactor 7) s7 l0).bind fun s8 =>
  if (ms_i s8 l0 32) = 0 then
    if (ms_i s8 l0 31) = 0 then
      f_X12_query_96 s8 l0 l2 l0
    else
      f_X12_query_101 s8 l0 l2 0 l0
  else
    f_X12_query_96 s8 l0 l2 l0
def f_X12_query_64   (σ : MsSt) (l0 : Nat) (l2 : Int32) (t0 : Nat) : Option (Int32 × MsSt) :=
  f_X12_query_69 σ l0 l2 1 t0
def f_X12_query  (σ : MsSt) (l0 : Nat) (l1 : Int32) : Option (Int32 × MsSt) :=
  ms_nm (ms_si σ l0 7 0) fun s1 =>
  (f_X12_inRange s1 l1.toInt64 0 ((if 200 < (ms_i s1 l0 27) then 200 else (ms_i s1 l0 27)).toInt64)).bind fun v2 =>
  if v2 = 0 then
    ms_b2 (f_X12_raise s1 l0 1) fun v17 s18 =>
    some (v17, s18)
  else
    ms_nm (ms_si s1 l0 40 0) fun s3 =>
    (f_X12_startText s3 l0 l1).bind fun s4 =>
    (f_X12_isWord s4 l0 645).bind fun v5 =>
    if v5 = 0 then
      (f_X12_isWord s4 l0 646).bind fun v16 =>
      if v16 = 0 then
        f_X12_query_69 s4 l0 v5 0 l0
      else
        f_X12_query_64 s4 l0 v5 l0
    else
      f_X12_query_64 s4 l0 v5 l0
