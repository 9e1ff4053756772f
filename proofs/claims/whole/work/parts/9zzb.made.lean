/-! the makings: what changes the heap -/
section Cm
variable {G : MG} {M M' : MM} {d c0 s0 pc2 : Nat} {lv2 : List (Nat × Value)} {pc : Nat} {lv : List (Nat × Value)} {rest : List Value} {δ : DSt} {o : Option DSt}
theorem cd_at.kept {δ1 : DSt} {a : Nat} {H H' : Heap} (h : cd_at G δ a H) (hq : H'[ms_ad G a]? = H[ms_ad G a]?) (h1 : ∀ k, cd_v δ1.2.2 a k = cd_v δ.2.2 a k) (h2 : ∀ k, cd_s δ1 a k = cd_s δ a k) : cd_at G δ1 a H' := by
  refine ⟨fun c hc hc2 => ?_, fun ak hk => ?_⟩
  · obtain ⟨r, e1, e2⟩ := h.1 c hc hc2
    exact ⟨r, e1, (e2.kept hq).to (fun k _ => by unfold cd_fv; rw [h1, h2])⟩
  · have e := h.2 ak hk
    unfold cd_ar at e ⊢
    rw [hq, e]
    congr 2
    funext k
    unfold cd_av
    rw [h1, h2]
theorem cd_rep.upd {δ1 : DSt} {H H' : Heap} {a : Nat} (hP : cd_rep G δ H) (hn : δ1.1 = δ.1) (ha : a < δ.1) (hat : cd_at G δ1 a H') (hz : H'.size = H.size) (hq : ∀ q, q ≠ ms_ad G a → H'[q]? = H[q]?) (h1 : ∀ b k, b ≠ a → cd_v δ1.2.2 b k = cd_v δ.2.2 b k) (h2 : ∀ b k, b ≠ a → cd_s δ1 b k = cd_s δ b k) : cd_rep G δ1 H' := by
  obtain ⟨p1, p2, p3, p4, p5⟩ := hP
  refine ⟨by rw [hz, hn]; exact p1, by rw [hn]; exact p2, fun b hb => ?_, fun q hq2 => ?_, fun b hb k => ?_⟩
  · rw [hn] at hb
    by_cases hba : b = a
    · rw [hba]; exact hat
    · exact (p3 b hb).kept (hq _ (fun e => hba (ms_ad_inj (by omega) (by omega) e))) (fun k => h1 b k hba) (fun k => h2 b k hba)
  · rw [hq q (by rw [ms_ad_lo (by omega : a < 600)]; omega)]
    exact p4 q hq2
  · rw [hn] at hb
    rw [h1 b k (by omega), h2 b k (by omega)]
    exact p5 b hb k
theorem cd_rep.grow {H H' : Heap} (hP : cd_rep G δ H) (hlt : δ.1 < 519) (hat : cd_at G (δ.1 + 1, δ.2.1, δ.2.2) δ.1 H') (hz : H'.size = H.size + 1) (hq : ∀ q, q < H.size → H'[q]? = H[q]?) : cd_rep G (δ.1 + 1, δ.2.1, δ.2.2) H' := by
  obtain ⟨p1, p2, p3, p4, p5⟩ := hP
  refine ⟨by rw [hz, p1]; show _ = (g_H G).size + (δ.1 + 1); omega, hlt, fun b hb => ?_, fun q hq2 => ?_, fun b hb k => ?_⟩
  · have hb' : b < δ.1 + 1 := hb
    by_cases hba : b = δ.1
    · rw [hba]; exact hat
    · exact (p3 b (by omega)).kept (hq _ (by rw [ms_ad_lo (by omega : b < 600), p1]; omega)) (fun k => rfl) (fun k => rfl)
  · rw [hq q (by rw [p1]; omega)]
    exact p4 q hq2
  · exact p5 b (by have : δ.1 + 1 ≤ b := hb; omega) k
theorem cd_sl_ob {a c : Nat} {r : vw_C} (hk : ms_kd a = c + 1) (hr : ms_cl[c]? = some r) : cd_sl a = r.2.2 := by
  have hc : c < 13 := (List.getElem?_eq_some_iff.mp hr).1
  unfold cd_sl
  rw [if_pos (by omega), show ms_kd a - 1 = c by omega, hr]
  rfl
theorem cd_sl_ar {a ak : Nat} (hk : ms_kd a = ak + 20) : cd_sl a = ms_ln a := by
  unfold cd_sl
  rw [if_neg (by omega)]
theorem cd_nf {c : Nat} {r : vw_C} (hr : ms_cl[c]? = some r) : c < 13 ∧ r.2.2 ≤ 41 := by
  have hc : c < 13 := (List.getElem?_eq_some_iff.mp hr).1
  have h : ∀ c, c < 13 → ((ms_cl[c]?).map fun r => r.2.2).getD 0 ≤ 41 := by decide +kernel
  have h2 := h c hc
  rw [hr] at h2
  exact ⟨hc, h2⟩
theorem cd_def {c k : Nat} (hc : c < 13) (hk : k < 41) : defaultValue (ms_ty c k) = if ms_isr c k = true then .null else .int 0 := (by decide +kernel : ∀ c, c < 13 → ∀ k, k < 41 → defaultValue (ms_ty c k) = if ms_isr c k = true then .null else .int 0) c hc k hk
theorem cd_lnb {a : Nat} (ha : a < 519) : ms_ln a ≤ 6000 := (by decide +kernel : ∀ a, a < 519 → ms_ln a ≤ 6000) a ha
theorem tc_new {idx : Nat} (c : Nat) (r : vw_C) (hr : ms_cl[c]? = some r) (hcl : Cond.classLink M.1 idx r.1 ∈ lw_tbl) (hins : Cond.instantiable r.1 r.2.2 ∈ lw_tbl) (hini : Cond.initialized r.1 ∈ lw_tbl) (hd : decode M.2.1 pc = .ok (.new idx, 3)) {f : DSt → Option DSt}
    (kk : ∀ δ1, TrC G M d c0 s0 pc2 lv2 (pc + 3) lv (.ref δ.1 :: rest) δ1 (f δ1)) : TrC G M d c0 s0 pc2 lv2 pc lv rest δ ((cd_new δ c).bind f) := by
  intro δ' hδ
  unfold cd_new at hδ
  by_cases hk : ms_kd δ.1 = c + 1
  · rw [if_pos hk, cd_mk_eq, Option.bind_some] at hδ
    obtain ⟨hm, K1⟩ := kk _ δ' hδ
    have hm' : δ.1 + 1 ≤ δ'.1 := hm
    refine ⟨by omega, fun p e R s m args below meth cc H locs cells slots ls Q X h1 h2 S K => ?_⟩
    obtain ⟨a1, a2, hP, a4, a5⟩ := S
    have hlt := ms_kd_lt (a := δ.1) (by omega)
    have hzn : cd_z (δ.1 + 1) = cd_z δ.1 + r.2.2 := by
      show cd_z δ.1 + cd_sl δ.1 = _
      rw [cd_sl_ob hk hr]
    have hz := cd_z_mono hm'
    have had : H.size = ms_ad G δ.1 := by
      rw [ms_ad_lo (by omega)]
      exact hP.1
    obtain ⟨hc13, hN⟩ := cd_nf hr
    have hT := X.1.2.2.2.2.2.2.1
    have hKn := hT.2.1.1 c r hr
    refine W.newcK X.1.1 X.1.2.1 X.1.2.2.2.2.2.1 (hT.w hcl rfl) (hT.w hins rfl) (hT.w hini rfl) rfl hd (by omega) (by omega) hKn.2.1 had fun H1 kC hkC e1 z1 o1 => ?_
    refine K1 p e R s m args below meth cc H1 locs (cells + 1) (slots + r.2.2) ls Q X h1 h2 ⟨by show _ ≤ δ.1 + 1; omega, by show _ ≤ cd_z (δ.1 + 1); omega, hP.grow hlt ⟨fun c2 hc2 hc3 => ?_, fun ak hak => by omega⟩ (by rw [z1, ← had]) (fun q hq => o1 q (by rw [← had]; exact hq)), a4, a5⟩ K
    obtain rfl : c2 = c := by omega
    refine ⟨r, hr, (u_born (ms_ty c2) (hT.g (args := args)) (ms_lays hr) hKn hkC e1 (ms_names hr).1).to (fun k hk2 => ?_)⟩
    obtain ⟨f1, f2⟩ := hP.2.2.2.2 δ.1 (Nat.le_refl _) k
    have f2' : cd_s (δ.1 + 1, δ.2.1, δ.2.2) δ.1 k = false := f2
    have f1' : cd_v ((δ.1 + 1, δ.2.1, δ.2.2) : DSt).2.2 δ.1 k = 0 := f1
    unfold cd_fv
    rw [cd_def hc13 (by omega), f1', f2']
    rfl
  · rw [if_neg hk] at hδ
    cases hδ
theorem tc_arr {atype : ArrayType} (ak : Nat) (hRA : ∀ (U : State) (x : ClassId), va_RA U x (ms_akty ak) → U.vm.findClass ("[" ++ (newarray.typeOf atype).toString) = some x) (hcb : componentBytes (newarray.typeOf atype) ≤ 8) (hdef : ∀ (δ : DSt) (a k : Nat), cd_v δ.2.2 a k = 0 → cd_s δ a k = false → defaultValue (newarray.typeOf atype) = cd_av G δ a ak k) (h8 : ak < 8) (harr : Cond.arrayClass (newarray.typeOf atype) ∈ lw_tbl) (hd : decode M.2.1 pc = .ok (.newarray atype, 2)) {n : Int32} {f : DSt → Option DSt}
    (kk : ∀ δ1, TrC G M d c0 s0 pc2 lv2 (pc + 2) lv (.ref δ.1 :: rest) δ1 (f δ1)) : TrC G M d c0 s0 pc2 lv2 pc lv (.int n :: rest) δ ((cd_arr δ ak n).bind f) := by
  intro δ' hδ
  unfold cd_arr at hδ
  by_cases hk0 : ms_kd δ.1 = ak + 20 ∧ ¬ n < 0 ∧ n.toNatClampNeg = ms_ln δ.1
  · rw [if_pos hk0, cd_mk_eq, Option.bind_some] at hδ
    obtain ⟨hk, hn0, hnl⟩ := hk0
    obtain ⟨hm, K1⟩ := kk _ δ' hδ
    have hm' : δ.1 + 1 ≤ δ'.1 := hm
    refine ⟨by omega, fun p e R s m args below meth cc H locs cells slots ls Q X h1 h2 S K => ?_⟩
    obtain ⟨a1, a2, hP, a4, a5⟩ := S
    have hlt := ms_kd_lt (a := δ.1) (by omega)
    have hzn : cd_z (δ.1 + 1) = cd_z δ.1 + ms_ln δ.1 := by
      show cd_z δ.1 + cd_sl δ.1 = _
      rw [cd_sl_ar hk]
    have hz := cd_z_mono hm'
    have had : H.size = ms_ad G δ.1 := by
      rw [ms_ad_lo (by omega)]
      exact hP.1
    have hT := X.1.2.2.2.2.2.2.1
    have hln := cd_lnb hlt
    have hby : ms_ln δ.1 * componentBytes (newarray.typeOf atype) ≤ 536870912 := Nat.le_trans (Nat.mul_le_mul hln hcb) (by decide)
    refine va_newaK X.1.1 X.1.2.1 (hT.w harr rfl) rfl hd rfl hn0 hnl hby (by omega) (by omega) had fun H1 cA e1 z1 o1 hAr hNm => ?_
    have hcA : cA = g_A G ak := Option.some.inj (hNm.symm.trans (hRA s _ (X.2.1.1 ak h8)))
    refine K1 p e R s m args below meth cc H1 locs (cells + 1) (slots + ms_ln δ.1) ls Q X h1 h2 ⟨by show _ ≤ δ.1 + 1; omega, by show _ ≤ cd_z (δ.1 + 1); omega, hP.grow hlt ⟨fun c2 hc2 hc3 => by omega, fun ak2 hak => ?_⟩ (by rw [z1, ← had]) (fun q hq => o1 q (by rw [← had]; exact hq)), a4, a5⟩ K
    obtain rfl : ak2 = ak := by omega
    unfold cd_ar
    rw [e1, hcA]
    congr 2
    funext k
    obtain ⟨f1, f2⟩ := hP.2.2.2.2 δ.1 (Nat.le_refl _) k
    exact hdef (δ.1 + 1, δ.2.1, δ.2.2) δ.1 k f1 f2
  · rw [if_neg hk0] at hδ
    cases hδ
theorem tc_anew {idx : Nat} (ak : Nat) (C : String) (h4 : 4 ≤ ak) (h8 : ak < 8) (hC : ms_akty ak = .object C) (hcl : Cond.classLink M.1 idx C ∈ lw_tbl) (hd : decode M.2.1 pc = .ok (.anewarray idx, 3)) {n : Int32} {f : DSt → Option DSt}
    (kk : ∀ δ1, TrC G M d c0 s0 pc2 lv2 (pc + 3) lv (.ref δ.1 :: rest) δ1 (f δ1)) : TrC G M d c0 s0 pc2 lv2 pc lv (.int n :: rest) δ ((cd_arr δ ak n).bind f) := by
  intro δ' hδ
  unfold cd_arr at hδ
  by_cases hk0 : ms_kd δ.1 = ak + 20 ∧ ¬ n < 0 ∧ n.toNatClampNeg = ms_ln δ.1
  · rw [if_pos hk0, cd_mk_eq, Option.bind_some] at hδ
    obtain ⟨hk, hn0, hnl⟩ := hk0
    obtain ⟨hm, K1⟩ := kk _ δ' hδ
    have hm' : δ.1 + 1 ≤ δ'.1 := hm
    refine ⟨by omega, fun p e R s m args below meth cc H locs cells slots ls Q X h1 h2 S K => ?_⟩
    obtain ⟨a1, a2, hP, a4, a5⟩ := S
    have hlt := ms_kd_lt (a := δ.1) (by omega)
    have hzn : cd_z (δ.1 + 1) = cd_z δ.1 + ms_ln δ.1 := by
      show cd_z δ.1 + cd_sl δ.1 = _
      rw [cd_sl_ar hk]
    have hz := cd_z_mono hm'
    have had : H.size = ms_ad G δ.1 := by
      rw [ms_ad_lo (by omega)]
      exact hP.1
    have hT := X.1.2.2.2.2.2.2.1
    have hln := cd_lnb hlt
    obtain ⟨C2, hC2, hov⟩ := X.2.1.2 ak h4 h8
    rw [hC] at hC2
    cases hC2
    have hra := X.2.1.1 ak h8
    rw [hC] at hra
    obtain ⟨kA0, comp0, g1, g2, g3, g4⟩ := hra
    refine W.anew X.1.1 X.1.2.1 X.1.2.2.2.2.2.1 (hT.w hcl rfl) (va_AO.use hov) rfl hd rfl hn0 (by omega) (by omega) (by omega) fun cA kA comp f1 f2 f3 f4 => ?_
    have hcA : cA = g_A G ak := Option.some.inj (f1.symm.trans g4)
    have had2 : ms_ad G δ.1 = H.size := had.symm
    rw [show Value.ref H.size = ms_cv G (.ref δ.1) by show _ = Value.ref (ms_ad G δ.1); rw [had2]]
    refine K1 p e R s m args below meth cc _ locs (cells + 1) (slots + n.toNatClampNeg) ls Q X h1 h2 ⟨by show _ ≤ δ.1 + 1; omega, by show _ ≤ cd_z (δ.1 + 1); omega, hP.grow hlt ⟨fun c2 hc2 hc3 => by omega, fun ak2 hak => ?_⟩ (Array.size_push _) (fun q hq => by rw [Array.getElem?_push, if_neg (Nat.ne_of_lt hq)]), a4, a5⟩ K
    obtain rfl : ak2 = ak := by omega
    unfold cd_ar
    rw [had2, Array.getElem?_push_size, arrV_new, hcA, hnl]
    congr 2
    funext k
    obtain ⟨f1, f2⟩ := hP.2.2.2.2 δ.1 (Nat.le_refl _) k
    have f2' : cd_s (δ.1 + 1, δ.2.1, δ.2.2) δ.1 k = false := f2
    unfold cd_av
    rw [if_neg (by omega), if_neg (by omega), if_neg (by omega), f2']
    rfl
  · rw [if_neg hk0] at hδ
    cases hδ
/-! fields -/
def CdF (M : MM) (idx c k : Nat) : Prop := ∃ r : vw_C, ms_cl[c]? = some r ∧ k < r.2.2 ∧ Cond.fieldLink M.1 idx (r.2.1 k).1 (r.2.1 k).2.1 (r.2.1 k).2.2.1 ∈ lw_tbl ∧ ((r.2.1 k).2.2.2 = false ∨ ((r.2.1 k).2.2.2 = true ∧ (r.2.1 k).1 = M.1 ∧ M.2.2.2.2.1.name = "<init>"))
theorem cd_wput {idx c k a : Nat} {v : Value} {V : Nat → Value} {p : Program} {e : Env} {R : Room} {s : State} {m : MethodId} {args : Array Value} {below : List Frame} {meth : Method} {cc : Code} {H : Heap} {locs : List Loc} {cells slots : Nat} {ls : Array Slot} {Q : State → Prop} {r : vw_C} {stk : List Value}
    (hr : ms_cl[c]? = some r) (hkN : k < r.2.2) (hlink : Cond.fieldLink M.1 idx (r.2.1 k).1 (r.2.1 k).2.1 (r.2.1 k).2.2.1 ∈ lw_tbl) (hfin : (r.2.1 k).2.2.2 = false ∨ ((r.2.1 k).2.2.2 = true ∧ (r.2.1 k).1 = M.1 ∧ M.2.2.2.2.1.name = "<init>"))
    (hn : narrow (ms_ty c k) v = v) (hfit : fits (ms_ty c k) v = true) (hd : decode M.2.1 pc = .ok (.putfield idx, 3)) (X : CdX G M d p s m args meth cc R) (hob : t_OB (ms_ad G a) ((g_D G).1 c) r.2.2 ((g_D G).2 c) H V)
    (kk : ∀ (H' : Heap) (i : Nat), t_OB (ms_ad G a) ((g_D G).1 c) r.2.2 ((g_D G).2 c) H' (updV V k v) → H'.size = H.size → (∀ q, q ≠ ms_ad G a → H'[q]? = H[q]?) → W p (g_l G) e R s m args below meth cc H' (locs ++ [⟨ms_ad G a, i⟩]) cells slots Q (F0 m (pc + 3) ls stk)) :
    W p (g_l G) e R s m args below meth cc H locs cells slots Q (F0 m pc ls (v :: .ref (ms_ad G a) :: stk)) := by
  have hT := X.1.2.2.2.2.2.2.1
  obtain ⟨cell, q1, q2, q3, q4⟩ := hob
  obtain ⟨hS, hfc, kC, hkC, hkind⟩ := hT.2.1.1 c _ hr
  obtain ⟨cf, kf, fi, f, hi, hsl⟩ := hS k hkN
  have hts := hT.g (args := args)
  have hin := ms_lays hr
  obtain ⟨hty, hnm⟩ := ms_names hr
  have hst := (u_facts hfc hkC (u_lays hts hin hkN) hi).1
  have hlay := hts _ (hin _ (u_in_lay hkN))
  have hap := va_apart (own := M.1) hts hin (ms_ty c) hty hnm hT.2.1 hr
  unfold u_lay at hlay
  rcases hfin with hfin | ⟨hfin, hdecl, hname⟩
  · rw [if_neg (by rw [hfin]; decide)] at hlay
    have h6 := u_store hfc hkC hkind hlay hi (hty k hkN) hn hfit
    refine W.putK X.1.1 X.1.2.1 (f := f) ⟨X.1.2.2.2.2.2.1, hT.w hlink rfl, ⟨_, _, _, hi⟩, hst⟩ (by rw [q2]; exact h6) q1 q3 (by rw [hsl]; exact k2_hasslot (q4 k hkN)) rfl rfl hd fun H' e1 e2 e3 => ?_
    rw [hsl] at e1
    exact kk H' _ ⟨_, e1, q2, q3, t_set q4 hap hkN v⟩ e2 e3
  · rw [if_pos hfin] at hlay
    have hcf : m.cls = cf := by
      obtain ⟨_, _, c', _, _, _, -, -, hf', -, -, -, hown2, -⟩ := Cond.laysFinal_spec hlay
      have e1 : c' = cf := by have := hi.symm.trans hf'; simp at this; exact this.1.symm
      rw [hdecl] at hown2
      rw [← e1]; exact Option.some.inj (X.1.2.2.2.2.2.1.symm.trans hown2)
    have h6 := u_fits hfc hkC hkind (Or.inr hlay) hi (hty k hkN) hn hfit
    refine W.putFinK X.1.1 X.1.2.1 X.1.2.2.2.2.2.1 (hT.w hlink rfl) hi hst hcf (X.2.2.1 hname) (by rw [q2]; exact h6) q1 q3 (by rw [hsl]; exact k2_hasslot (q4 k hkN)) rfl rfl hd fun H' e1 e2 e3 => ?_
    rw [hsl] at e1
    exact kk H' _ ⟨_, e1, q2, q3, t_set q4 hap hkN v⟩ e2 e3
theorem tc_puti {idx a : Nat} {x : Int32} (c k : Nat) (hF : CdF M idx c k) (hI : ms_isr c k = false) (hn : narrow (ms_ty c k) (.int x) = .int x) (hfit : fits (ms_ty c k) (.int x) = true) (hd : decode M.2.1 pc = .ok (.putfield idx, 3)) {f : DSt → Option DSt}
    (kk : ∀ δ1, TrC G M d c0 s0 pc2 lv2 (pc + 3) lv rest δ1 (f δ1)) : TrC G M d c0 s0 pc2 lv2 pc lv (.int x :: .ref a :: rest) δ ((cd_pi δ c a k x).bind f) := by
  intro δ' hδ
  unfold cd_pi at hδ
  by_cases hk0 : ms_kd a = c + 1 ∧ a < δ.1
  · rw [if_pos hk0, cd_mk_eq, Option.bind_some] at hδ
    obtain ⟨hm, K1⟩ := kk _ δ' hδ
    have hm' : δ.1 ≤ δ'.1 := hm
    refine ⟨hm', fun p e R s m args below meth cc H locs cells slots ls Q X h1 h2 S K => ?_⟩
    obtain ⟨a1, a2, hP, a4, a5⟩ := S
    obtain ⟨r, hr, hkN, hlink, hfin⟩ := hF
    obtain ⟨hc13, hN⟩ := cd_nf hr
    have ha : a < 519 := ms_kd_lt (by omega)
    obtain ⟨r', hr', hob⟩ := (hP.2.2.1 a hk0.2).1 c hk0.1 hc13
    cases hr.symm.trans hr'
    refine cd_wput hr hkN hlink hfin hn hfit hd X hob fun H' i e1 e2 e3 => ?_
    refine K1 p e R s m args below meth cc H' _ cells slots ls Q X h1 h2 ⟨a1, a2, hP.upd rfl hk0.2 ⟨fun c2 hc2 hc3 => ?_, fun ak hak => by omega⟩ e2 e3 (fun b j hb => cd_wi_ne _ _ (Or.inl hb)) (fun b j hb => rfl), ms_base a4 ha, a5⟩ K
    obtain rfl : c2 = c := by omega
    refine ⟨r, hr, e1.to fun j _ => ?_⟩
    unfold updV cd_fv
    by_cases hj : j = k
    · subst hj
      rw [if_pos rfl, hI]
      show _ = Value.int (cd_v (cd_wi _ _ _ _) _ _)
      rw [cd_wi_same]
      rfl
    · rw [if_neg hj]
      show _ = if ms_isr c2 j = true then (if cd_s δ a j = true then _ else _) else Value.int (cd_v (cd_wi _ _ _ _) _ _)
      rw [cd_wi_ne _ _ (Or.inr hj)]
  · rw [if_neg hk0] at hδ
    cases hδ
theorem tc_putr {idx a v : Nat} (c k : Nat) (hF : CdF M idx c k) (hI : ms_isr c k = true) (hn : ∀ q, narrow (ms_ty c k) (.ref q) = .ref q) (hfit : ∀ q, fits (ms_ty c k) (.ref q) = true) (hd : decode M.2.1 pc = .ok (.putfield idx, 3)) {f : DSt → Option DSt}
    (kk : ∀ δ1, TrC G M d c0 s0 pc2 lv2 (pc + 3) lv rest δ1 (f δ1)) : TrC G M d c0 s0 pc2 lv2 pc lv (.ref v :: .ref a :: rest) δ ((cd_pr δ c a k v).bind f) := by
  intro δ' hδ
  unfold cd_pr at hδ
  by_cases hk0 : ms_kd a = c + 1 ∧ a < δ.1 ∧ ms_rf a k = v ∧ k < 64
  · rw [if_pos hk0, cd_mk_eq, Option.bind_some] at hδ
    obtain ⟨hm, K1⟩ := kk _ δ' hδ
    have hm' : δ.1 ≤ δ'.1 := hm
    refine ⟨hm', fun p e R s m args below meth cc H locs cells slots ls Q X h1 h2 S K => ?_⟩
    obtain ⟨a1, a2, hP, a4, a5⟩ := S
    obtain ⟨r, hr, hkN, hlink, hfin⟩ := hF
    obtain ⟨hc13, hN⟩ := cd_nf hr
    obtain ⟨k1, k2, k3, k4⟩ := hk0
    have ha : a < 519 := ms_kd_lt (by omega)
    obtain ⟨r', hr', hob⟩ := (hP.2.2.1 a k2).1 c k1 hc13
    cases hr.symm.trans hr'
    refine cd_wput hr hkN hlink hfin (hn (ms_ad G v)) (hfit (ms_ad G v)) hd X hob fun H' i e1 e2 e3 => ?_
    refine K1 p e R s m args below meth cc H' _ cells slots ls Q X h1 h2 ⟨a1, a2, hP.upd rfl k2 ⟨fun c2 hc2 hc3 => ?_, fun ak hak => by omega⟩ e2 e3 (fun b j hb => rfl) (fun b j hb => cd_s_ne (m := δ.1) (w' := δ.2.2) k4 (Or.inl hb)), ms_base a4 ha, a5⟩ K
    obtain rfl : c2 = c := by omega
    refine ⟨r, hr, e1.to fun j _ => ?_⟩
    unfold updV cd_fv
    by_cases hj : j = k
    · subst hj
      rw [if_pos rfl, if_pos hI, cd_s_same k4, if_pos rfl, k3]
      rfl
    · rw [if_neg hj, cd_s_ne (m := δ.1) (w' := δ.2.2) k4 (Or.inr hj)]
  · rw [if_neg hk0] at hδ
    cases hδ
theorem tc_getr {idx a : Nat} (c k : Nat) (hF : ∃ r : vw_C, ms_cl[c]? = some r ∧ k < r.2.2 ∧ Cond.fieldLink M.1 idx (r.2.1 k).1 (r.2.1 k).2.1 (r.2.1 k).2.2.1 ∈ lw_tbl) (hI : ms_isr c k = true) (hd : decode M.2.1 pc = .ok (.getfield idx, 3)) {f : Nat → Option DSt}
    (kk : ∀ v, TrC G M d c0 s0 pc2 lv2 (pc + 3) lv (.ref v :: rest) δ (f v)) : TrC G M d c0 s0 pc2 lv2 pc lv (.ref a :: rest) δ ((cd_gr δ c a k).bind f) := by
  intro δ' hδ
  unfold cd_gr at hδ
  by_cases hk0 : ms_kd a = c + 1 ∧ a < δ.1 ∧ cd_s δ a k = true
  · rw [if_pos hk0, Option.bind_some] at hδ
    obtain ⟨hm, K1⟩ := kk _ δ' hδ
    refine ⟨hm, fun p e R s m args below meth cc H locs cells slots ls Q X h1 h2 S K => ?_⟩
    have K2 := K1 p e R s m args below meth cc H locs cells slots ls Q X h1 h2 S K
    obtain ⟨a1, a2, hP, a4, a5⟩ := S
    obtain ⟨r, hr, hkN, hlink⟩ := hF
    obtain ⟨hc13, hN⟩ := cd_nf hr
    obtain ⟨r', hr', cell, q1, q2, q3, q4⟩ := (hP.2.2.1 a hk0.2.1).1 c hk0.1 hc13
    cases hr.symm.trans hr'
    have hT := X.1.2.2.2.2.2.2.1
    obtain ⟨hS, hfc, kC, hkC, hkind⟩ := hT.2.1.1 c _ hr
    obtain ⟨cf, kf, fi, f, hi, hsl⟩ := hS k hkN
    have hst := (u_facts (args := args) hfc hkC (u_lays hT.g (ms_lays hr) hkN) hi).1
    have hsv : cell.slots[f.slot]? = some (.ref (ms_ad G (ms_rf a k))) := by
      rw [hsl, q4 k hkN]
      unfold cd_fv
      rw [if_pos hI, if_pos hk0.2.2]
    exact W.getf X.1.1 X.1.2.1 X.1.2.2.2.2.2.1 (hT.w hlink rfl) hi hst q1 (by rw [q3]; exact fun h => by cases h) hsv rfl rfl hd K2
  · rw [if_neg hk0] at hδ
    cases hδ
theorem tc_len {a : Nat} (ak : Nat) (h8 : ak < 8) (hd : decode M.2.1 pc = .ok (.arraylength, 1)) {f : Int32 → Option DSt}
    (kk : ∀ v, TrC G M d c0 s0 pc2 lv2 (pc + 1) lv (.int v :: rest) δ (f v)) : TrC G M d c0 s0 pc2 lv2 pc lv (.ref a :: rest) δ ((cd_ln δ ak a).bind f) := by
  intro δ' hδ
  unfold cd_ln at hδ
  by_cases hk0 : ms_kd a = ak + 20 ∧ a < δ.1
  · rw [if_pos hk0, Option.bind_some] at hδ
    obtain ⟨hm, K1⟩ := kk _ δ' hδ
    refine ⟨hm, fun p e R s m args below meth cc H locs cells slots ls Q X h1 h2 S K => ?_⟩
    have K2 := K1 p e R s m args below meth cc H locs cells slots ls Q X h1 h2 S K
    have ha := (S.2.2.1.2.2.1 a hk0.2).2 ak hk0.1
    unfold cd_ar at ha
    exact W.alen (n := Int32.ofNat (ms_ln a)) X.1.1 X.1.2.1 ha (X.1.2.2.2.2.2.2.1.2.2.1 ak h8 _ _) (by rw [arrV_size] <;> rfl) rfl rfl hd K2
  · rw [if_neg hk0] at hδ
    cases hδ
end Cm
