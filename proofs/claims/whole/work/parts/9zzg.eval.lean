/-! what the makings come to -/
section Ev
def cd_full (δ : DSt) : Bool := (List.range 519).all fun a => if ms_kd a < 14 then (List.range 41).all fun k => !(decide (k < cd_sl a)) || (!(ms_isr (ms_kd a - 1) k) || cd_s δ a k) else if 24 ≤ ms_kd a then (List.range (ms_ln a)).all fun k => cd_s δ a k else true
def cd_W : List (Nat × Nat × Int32) := [(494, 1, 1), (493, 34, -1), (0, 13, -1), (140, 5, 1), (3, 5, 1), (1, 8, -1)]
def cd_ck (o : Option DSt) : Bool := match o with
  | none => false
  | some δ => decide (δ.1 = 519) && (decide (δ.2.2 = cd_W) && cd_full δ)
set_option maxRecDepth 100000 in
theorem cd_run : cd_ck (f_law_0 (0, 0, [])) = true := by decide +kernel
end Ev
