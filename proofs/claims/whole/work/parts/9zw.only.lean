/-! which throws a call may make: printed by zz.py -/
section Zz
variable {α β γ : Type} {P : α → Prop}
def AZ (P : α → Prop) (o : Option α) : Prop := ∀ r, o = some r → P r
def E1 (m : Nat) (r : α ⊕ Nat) : Prop := ∀ e, r = .inr e → e ≤ m
def E2 (m : Nat) (r : (α ⊕ Nat) × MsSt) : Prop := ∀ e, r.1 = .inr e → e ≤ m
def Ev (m : Nat) (r : Option Nat) : Prop := ∀ e, r = some e → e ≤ m
def Ev2 (m : Nat) (r : Option Nat × MsSt) : Prop := ∀ e, r.1 = some e → e ≤ m
theorem az1_l {m : Nat} {v : α} : AZ (E1 m) (some (.inl v)) := fun r h e q => by cases h; cases q
theorem az1_r {m e : Nat} (h1 : e ≤ m) : AZ (E1 (α := α) m) (some (.inr e)) := fun r h e q => by cases h; cases q; exact h1
theorem az2_l {m : Nat} {v : α} {s : MsSt} : AZ (E2 m) (some (.inl v, s)) := fun r h e q => by cases h; cases q
theorem az2_r {m e : Nat} {s : MsSt} (h1 : e ≤ m) : AZ (E2 (α := α) m) (some (.inr e, s)) := fun r h e q => by cases h; cases q; exact h1
theorem azv_n {m : Nat} : AZ (Ev m) (some none) := fun r h e q => by cases h; cases q
theorem azv_s {m e : Nat} (h1 : e ≤ m) : AZ (Ev m) (some (some e)) := fun r h e q => by cases h; cases q; exact h1
theorem azw_n {m : Nat} {s : MsSt} : AZ (Ev2 m) (some (none, s)) := fun r h e q => by cases h; cases q
theorem azw_s {m e : Nat} {s : MsSt} (h1 : e ≤ m) : AZ (Ev2 m) (some (some e, s)) := fun r h e q => by cases h; cases q; exact h1
theorem az_none : AZ P none := fun r h => by cases h
theorem az_bind {x : Option β} {f : β → Option α} (h : ∀ v, AZ P (f v)) : AZ P (x.bind f) := fun r hr => by
  obtain ⟨v, h1, h2⟩ := ms_bind_s hr
  exact h v r h2
theorem az_if {c : Prop} [Decidable c] {a b : Option α} (h1 : AZ P a) (h2 : AZ P b) : AZ P (if c then a else b) := by split <;> assumption
theorem az_nm {v : β} {f : β → Option α} (h : ∀ s, AZ P (f s)) : AZ P (ms_nm v f) := h v
theorem az_b2 {x : Option (β × γ)} {f : β → γ → Option α} (h : ∀ v s, AZ P (f v s)) : AZ P (ms_b2 x f) := az_bind fun p => h p.1 p.2
theorem az_bt {m : Nat} {x : Option (Option Nat)} {f0 : Option α} {f1 : Nat → Option α} (h : AZ (Ev m) x) (h0 : AZ P f0) (h1 : ∀ e, e ≤ m → AZ P (f1 e)) : AZ P (ms_bt x f0 f1) := fun r hr => by
  obtain ⟨v, q1, q2⟩ := ms_bind_s hr
  cases v with
  | none => exact h0 r q2
  | some e => exact h1 e (h _ q1 e rfl) r q2
theorem az_bu {m : Nat} {x : Option (Option Nat × MsSt)} {f0 : MsSt → Option α} {f1 : Nat → MsSt → Option α} (h : AZ (Ev2 m) x) (h0 : ∀ s, AZ P (f0 s)) (h1 : ∀ e s, e ≤ m → AZ P (f1 e s)) : AZ P (ms_bu x f0 f1) := fun r hr => by
  obtain ⟨⟨v, s⟩, q1, q2⟩ := ms_bind_s hr
  cases v with
  | none => exact h0 s r q2
  | some e => exact h1 e s (h _ q1 e rfl) r q2
end Zz
theorem z_needLength {m : Nat} (hm : 1 ≤ m) (σ : MsSt) (l0 : Nat) (l1 : Int32) (l2 : Int32) : AZ (Ev m) (f_X10_needLength σ l0 l1 l2) := by
  unfold f_X10_needLength
  repeat' first | with_reducible exact azv_n | with_reducible exact azv_s (Nat.zero_le _) | with_reducible exact azv_s (by assumption) | with_reducible refine az_nm (fun _ => ?_) | with_reducible refine az_bt (m := m) ?_ ?_ (fun _ _ => ?_) | with_reducible refine az_bu (m := m) ?_ (fun _ => ?_) (fun _ _ _ => ?_) | with_reducible refine az_if ?_ ?_ | with_reducible refine az_b2 (fun _ _ => ?_) | with_reducible refine az_bind (fun _ => ?_)
theorem z_needIn {m : Nat} (σ : MsSt) (l0 : Int32) (l1 : Int32) (l2 : Int32) : AZ (Ev m) (f_X10_needIn σ l0 l1 l2) := by
  unfold f_X10_needIn
  repeat' first | with_reducible exact azv_n | with_reducible exact azv_s (Nat.zero_le _) | with_reducible exact azv_s (by assumption) | with_reducible refine az_nm (fun _ => ?_) | with_reducible refine az_bt (m := m) ?_ ?_ (fun _ _ => ?_) | with_reducible refine az_bu (m := m) ?_ (fun _ => ?_) (fun _ _ _ => ?_) | with_reducible refine az_if ?_ ?_ | with_reducible refine az_b2 (fun _ _ => ?_) | with_reducible refine az_bind (fun _ => ?_)
theorem z_size {m : Nat} (σ : MsSt) (l0 : Nat) (l1 : Int32) : AZ (E1 m) (f_X10_size σ l0 l1) := by
  unfold f_X10_size
  repeat' first | with_reducible exact az1_l | with_reducible exact az1_r (Nat.zero_le _) | with_reducible exact az1_r (by assumption) | with_reducible apply z_needIn | with_reducible refine az_nm (fun _ => ?_) | with_reducible refine az_bt (m := m) ?_ ?_ (fun _ _ => ?_) | with_reducible refine az_bu (m := m) ?_ (fun _ => ?_) (fun _ _ _ => ?_) | with_reducible refine az_if ?_ ?_ | with_reducible refine az_b2 (fun _ _ => ?_) | with_reducible refine az_bind (fun _ => ?_)
theorem z_needSign {m : Nat} (σ : MsSt) (l0 : Nat) (l1 : Int32) : AZ (Ev m) (f_X10_needSign σ l0 l1) := by
  unfold f_X10_needSign
  repeat' first | with_reducible exact azv_n | with_reducible exact azv_s (Nat.zero_le _) | with_reducible exact azv_s (by assumption) | with_reducible apply z_needIn | with_reducible refine az_nm (fun _ => ?_) | with_reducible refine az_bt (m := m) ?_ ?_ (fun _ _ => ?_) | with_reducible refine az_bu (m := m) ?_ (fun _ => ?_) (fun _ _ _ => ?_) | with_reducible refine az_if ?_ ?_ | with_reducible refine az_b2 (fun _ _ => ?_) | with_reducible refine az_bind (fun _ => ?_)
theorem z_sign {m : Nat} (σ : MsSt) (l0 : Nat) (l1 : Int32) (l2 : Int32) : AZ (E1 m) (f_X10_sign σ l0 l1 l2) := by
  unfold f_X10_sign
  repeat' first | with_reducible exact az1_l | with_reducible exact az1_r (Nat.zero_le _) | with_reducible exact az1_r (by assumption) | with_reducible apply z_needIn | with_reducible apply z_needSign | with_reducible refine az_nm (fun _ => ?_) | with_reducible refine az_bt (m := m) ?_ ?_ (fun _ _ => ?_) | with_reducible refine az_bu (m := m) ?_ (fun _ => ?_) (fun _ _ _ => ?_) | with_reducible refine az_if ?_ ?_ | with_reducible refine az_b2 (fun _ _ => ?_) | with_reducible refine az_bind (fun _ => ?_)
theorem z_letter {m : Nat} (σ : MsSt) (l0 : Nat) (l1 : Int32) (l2 : Int32) : AZ (E1 m) (f_X10_letter σ l0 l1 l2) := by
  unfold f_X10_letter
  repeat' first | with_reducible exact az1_l | with_reducible exact az1_r (Nat.zero_le _) | with_reducible exact az1_r (by assumption) | with_reducible apply z_needSign | with_reducible refine az_nm (fun _ => ?_) | with_reducible refine az_bt (m := m) ?_ ?_ (fun _ _ => ?_) | with_reducible refine az_bu (m := m) ?_ (fun _ => ?_) (fun _ _ _ => ?_) | with_reducible refine az_if ?_ ?_ | with_reducible refine az_b2 (fun _ _ => ?_) | with_reducible refine az_bind (fun _ => ?_)
theorem z_expanded {m : Nat} (σ : MsSt) (l0 : Nat) (l1 : Int32) (l2 : Int32) : AZ (E1 m) (f_X10_expanded σ l0 l1 l2) := by
  unfold f_X10_expanded
  repeat' first | with_reducible exact az1_l | with_reducible exact az1_r (Nat.zero_le _) | with_reducible exact az1_r (by assumption) | with_reducible apply z_needIn | with_reducible apply z_needSign | with_reducible refine az_nm (fun _ => ?_) | with_reducible refine az_bt (m := m) ?_ ?_ (fun _ _ => ?_) | with_reducible refine az_bu (m := m) ?_ (fun _ => ?_) (fun _ _ _ => ?_) | with_reducible refine az_if ?_ ?_ | with_reducible refine az_b2 (fun _ _ => ?_) | with_reducible refine az_bind (fun _ => ?_)
theorem z_pairOf {m : Nat} (σ : MsSt) (l0 : Nat) (l1 : Int32) (l2 : Int32) : AZ (E1 m) (f_X10_pairOf σ l0 l1 l2) := by
  unfold f_X10_pairOf
  repeat' first | with_reducible exact az1_l | with_reducible exact az1_r (Nat.zero_le _) | with_reducible exact az1_r (by assumption) | with_reducible apply z_needSign | with_reducible refine az_nm (fun _ => ?_) | with_reducible refine az_bt (m := m) ?_ ?_ (fun _ _ => ?_) | with_reducible refine az_bu (m := m) ?_ (fun _ => ?_) (fun _ _ _ => ?_) | with_reducible refine az_if ?_ ?_ | with_reducible refine az_b2 (fun _ _ => ?_) | with_reducible refine az_bind (fun _ => ?_)
theorem z_used {m : Nat} (σ : MsSt) (l0 : Nat) (l1 : Int32) : AZ (E1 m) (f_X10_used σ l0 l1) := by
  unfold f_X10_used
  repeat' first | with_reducible exact az1_l | with_reducible exact az1_r (Nat.zero_le _) | with_reducible exact az1_r (by assumption) | with_reducible apply z_needSign | with_reducible refine az_nm (fun _ => ?_) | with_reducible refine az_bt (m := m) ?_ ?_ (fun _ _ => ?_) | with_reducible refine az_bu (m := m) ?_ (fun _ => ?_) (fun _ _ _ => ?_) | with_reducible refine az_if ?_ ?_ | with_reducible refine az_b2 (fun _ _ => ?_) | with_reducible refine az_bind (fun _ => ?_)
theorem z_recomposed {m : Nat} (σ : MsSt) (l0 : Nat) (l1 : Int32) : AZ (E2 m) (f_X10_recomposed σ l0 l1) := by
  unfold f_X10_recomposed
  repeat' first | with_reducible exact az2_l | with_reducible exact az2_r (Nat.zero_le _) | with_reducible exact az2_r (by assumption) | with_reducible apply z_needSign | with_reducible refine az_nm (fun _ => ?_) | with_reducible refine az_bt (m := m) ?_ ?_ (fun _ _ => ?_) | with_reducible refine az_bu (m := m) ?_ (fun _ => ?_) (fun _ _ _ => ?_) | with_reducible refine az_if ?_ ?_ | with_reducible refine az_b2 (fun _ _ => ?_) | with_reducible refine az_bind (fun _ => ?_)
theorem z_needLine {m : Nat} (σ : MsSt) (l0 : Nat) (l1 : Int32) : AZ (Ev m) (f_X10_needLine σ l0 l1) := by
  unfold f_X10_needLine
  repeat' first | with_reducible exact azv_n | with_reducible exact azv_s (Nat.zero_le _) | with_reducible exact azv_s (by assumption) | with_reducible apply z_needIn | with_reducible refine az_nm (fun _ => ?_) | with_reducible refine az_bt (m := m) ?_ ?_ (fun _ _ => ?_) | with_reducible refine az_bu (m := m) ?_ (fun _ => ?_) (fun _ _ _ => ?_) | with_reducible refine az_if ?_ ?_ | with_reducible refine az_b2 (fun _ _ => ?_) | with_reducible refine az_bind (fun _ => ?_)
theorem z_line {m : Nat} (σ : MsSt) (l0 : Nat) (l1 : Int32) (l2 : Int32) : AZ (E2 m) (f_X10_line σ l0 l1 l2) := by
  unfold f_X10_line
  repeat' first | with_reducible exact az2_l | with_reducible exact az2_r (Nat.zero_le _) | with_reducible exact az2_r (by assumption) | with_reducible apply z_needIn | with_reducible apply z_needLine | with_reducible refine az_nm (fun _ => ?_) | with_reducible refine az_bt (m := m) ?_ ?_ (fun _ _ => ?_) | with_reducible refine az_bu (m := m) ?_ (fun _ => ?_) (fun _ _ _ => ?_) | with_reducible refine az_if ?_ ?_ | with_reducible refine az_b2 (fun _ _ => ?_) | with_reducible refine az_bind (fun _ => ?_)
theorem z_at {m : Nat} (σ : MsSt) (l0 : Nat) (l1 : Int32) (l2 : Int32) (l3 : Int32) : AZ (E2 m) (f_X10_at σ l0 l1 l2 l3) := by
  unfold f_X10_at
  repeat' first | with_reducible exact az2_l | with_reducible exact az2_r (Nat.zero_le _) | with_reducible exact az2_r (by assumption) | with_reducible apply z_needIn | with_reducible apply z_needLine | with_reducible refine az_nm (fun _ => ?_) | with_reducible refine az_bt (m := m) ?_ ?_ (fun _ _ => ?_) | with_reducible refine az_bu (m := m) ?_ (fun _ => ?_) (fun _ _ _ => ?_) | with_reducible refine az_if ?_ ?_ | with_reducible refine az_b2 (fun _ _ => ?_) | with_reducible refine az_bind (fun _ => ?_)
theorem z_unlike {m : Nat} (σ : MsSt) (l0 : Nat) (l1 : Int32) (l2 : Int32) : AZ (E2 m) (f_X10_unlike σ l0 l1 l2) := by
  unfold f_X10_unlike
  repeat' first | with_reducible exact az2_l | with_reducible exact az2_r (Nat.zero_le _) | with_reducible exact az2_r (by assumption) | with_reducible apply z_needIn | with_reducible apply z_needLine | with_reducible refine az_nm (fun _ => ?_) | with_reducible refine az_bt (m := m) ?_ ?_ (fun _ _ => ?_) | with_reducible refine az_bu (m := m) ?_ (fun _ => ?_) (fun _ _ _ => ?_) | with_reducible refine az_if ?_ ?_ | with_reducible refine az_b2 (fun _ _ => ?_) | with_reducible refine az_bind (fun _ => ?_)
theorem z_clusterOf {m : Nat} (σ : MsSt) (l0 : Nat) (l1 : Int32) (l2 : Int32) : AZ (E1 m) (f_X10_clusterOf σ l0 l1 l2) := by
  unfold f_X10_clusterOf
  repeat' first | with_reducible exact az1_l | with_reducible exact az1_r (Nat.zero_le _) | with_reducible exact az1_r (by assumption) | with_reducible apply z_needIn | with_reducible apply z_needLine | with_reducible refine az_nm (fun _ => ?_) | with_reducible refine az_bt (m := m) ?_ ?_ (fun _ _ => ?_) | with_reducible refine az_bu (m := m) ?_ (fun _ => ?_) (fun _ _ _ => ?_) | with_reducible refine az_if ?_ ?_ | with_reducible refine az_b2 (fun _ _ => ?_) | with_reducible refine az_bind (fun _ => ?_)
theorem z_needCluster {m : Nat} (σ : MsSt) (l0 : Nat) (l1 : Int32) (l2 : Int32) : AZ (Ev2 m) (f_X10_needCluster σ l0 l1 l2) := by
  unfold f_X10_needCluster
  repeat' first | with_reducible exact azw_n | with_reducible exact azw_s (Nat.zero_le _) | with_reducible exact azw_s (by assumption) | with_reducible apply z_needIn | with_reducible apply z_needLine | with_reducible refine az_nm (fun _ => ?_) | with_reducible refine az_bt (m := m) ?_ ?_ (fun _ _ => ?_) | with_reducible refine az_bu (m := m) ?_ (fun _ => ?_) (fun _ _ _ => ?_) | with_reducible refine az_if ?_ ?_ | with_reducible refine az_b2 (fun _ _ => ?_) | with_reducible refine az_bind (fun _ => ?_)
theorem z_cluster {m : Nat} (σ : MsSt) (l0 : Nat) (l1 : Int32) (l2 : Int32) (l3 : Int32) : AZ (E2 m) (f_X10_cluster σ l0 l1 l2 l3) := by
  unfold f_X10_cluster
  repeat' first | with_reducible exact az2_l | with_reducible exact az2_r (Nat.zero_le _) | with_reducible exact az2_r (by assumption) | with_reducible apply z_needIn | with_reducible apply z_needCluster | with_reducible refine az_nm (fun _ => ?_) | with_reducible refine az_bt (m := m) ?_ ?_ (fun _ _ => ?_) | with_reducible refine az_bu (m := m) ?_ (fun _ => ?_) (fun _ _ _ => ?_) | with_reducible refine az_if ?_ ?_ | with_reducible refine az_b2 (fun _ _ => ?_) | with_reducible refine az_bind (fun _ => ?_)
theorem z_box {m : Nat} (σ : MsSt) (l0 : Nat) (l1 : Int32) (l2 : Int32) (l3 : Int32) (l4 : Int32) : AZ (E2 m) (f_X10_box σ l0 l1 l2 l3 l4) := by
  unfold f_X10_box
  repeat' first | with_reducible exact az2_l | with_reducible exact az2_r (Nat.zero_le _) | with_reducible exact az2_r (by assumption) | with_reducible apply z_needIn | with_reducible apply z_needCluster | with_reducible refine az_nm (fun _ => ?_) | with_reducible refine az_bt (m := m) ?_ ?_ (fun _ _ => ?_) | with_reducible refine az_bu (m := m) ?_ (fun _ => ?_) (fun _ _ _ => ?_) | with_reducible refine az_if ?_ ?_ | with_reducible refine az_b2 (fun _ _ => ?_) | with_reducible refine az_bind (fun _ => ?_)
theorem z_spellings {m : Nat} (σ : MsSt) (l0 : Nat) (l1 : Int32) (l2 : Int32) : AZ (E2 m) (f_X10_spellings σ l0 l1 l2) := by
  unfold f_X10_spellings
  repeat' first | with_reducible exact az2_l | with_reducible exact az2_r (Nat.zero_le _) | with_reducible exact az2_r (by assumption) | with_reducible apply z_needCluster | with_reducible refine az_nm (fun _ => ?_) | with_reducible refine az_bt (m := m) ?_ ?_ (fun _ _ => ?_) | with_reducible refine az_bu (m := m) ?_ (fun _ => ?_) (fun _ _ _ => ?_) | with_reducible refine az_if ?_ ?_ | with_reducible refine az_b2 (fun _ _ => ?_) | with_reducible refine az_bind (fun _ => ?_)
theorem z_clashes {m : Nat} (σ : MsSt) (l0 : Nat) (l1 : Int32) (l2 : Int32) : AZ (E2 m) (f_X10_clashes σ l0 l1 l2) := by
  unfold f_X10_clashes
  repeat' first | with_reducible exact az2_l | with_reducible exact az2_r (Nat.zero_le _) | with_reducible exact az2_r (by assumption) | with_reducible apply z_needIn | with_reducible apply z_needCluster | with_reducible refine az_nm (fun _ => ?_) | with_reducible refine az_bt (m := m) ?_ ?_ (fun _ _ => ?_) | with_reducible refine az_bu (m := m) ?_ (fun _ => ?_) (fun _ _ _ => ?_) | with_reducible refine az_if ?_ ?_ | with_reducible refine az_b2 (fun _ _ => ?_) | with_reducible refine az_bind (fun _ => ?_)
theorem z_fullest_28 {m : Nat}  : ∀ (n : Nat) (y0 : MsSt) (y1 : Nat) (y2 : Int32) (y3 : Int32) (y4 : Int32), AZ (E2 m) (f_X10_fullest_28  n y0 y1 y2 y3 y4) := by
  intro n
  induction n with
  | zero => intros; exact az_none
  | succ n ih =>
    intros
    rw [f_X10_fullest_28]
    repeat' first | with_reducible exact az2_l | with_reducible exact az2_r (Nat.zero_le _) | with_reducible exact az2_r (by assumption) | with_reducible apply ih | with_reducible refine az_nm (fun _ => ?_) | with_reducible refine az_bt (m := m) ?_ ?_ (fun _ _ => ?_) | with_reducible refine az_bu (m := m) ?_ (fun _ => ?_) (fun _ _ _ => ?_) | with_reducible refine az_if ?_ ?_ | with_reducible refine az_b2 (fun _ _ => ?_) | with_reducible refine az_bind (fun _ => ?_)
theorem z_fullest {m : Nat} (σ : MsSt) (l0 : Nat) (l1 : Int32) : AZ (E2 m) (f_X10_fullest σ l0 l1) := by
  unfold f_X10_fullest
  repeat' first | with_reducible exact az2_l | with_reducible exact az2_r (Nat.zero_le _) | with_reducible exact az2_r (by assumption) | with_reducible apply z_needLine | with_reducible apply z_fullest_28 | with_reducible refine az_nm (fun _ => ?_) | with_reducible refine az_bt (m := m) ?_ ?_ (fun _ _ => ?_) | with_reducible refine az_bu (m := m) ?_ (fun _ => ?_) (fun _ _ _ => ?_) | with_reducible refine az_if ?_ ?_ | with_reducible refine az_b2 (fun _ _ => ?_) | with_reducible refine az_bind (fun _ => ?_)
theorem z_needBoth {m : Nat} (σ : MsSt) (l0 : Nat) (l1 : Int32) (l2 : Int32) : AZ (Ev2 m) (f_X10_needBoth σ l0 l1 l2) := by
  unfold f_X10_needBoth
  repeat' first | with_reducible exact azw_n | with_reducible exact azw_s (Nat.zero_le _) | with_reducible exact azw_s (by assumption) | with_reducible apply z_needLine | with_reducible refine az_nm (fun _ => ?_) | with_reducible refine az_bt (m := m) ?_ ?_ (fun _ _ => ?_) | with_reducible refine az_bu (m := m) ?_ (fun _ => ?_) (fun _ _ _ => ?_) | with_reducible refine az_if ?_ ?_ | with_reducible refine az_b2 (fun _ _ => ?_) | with_reducible refine az_bind (fun _ => ?_)
theorem z_compare {m : Nat} (σ : MsSt) (l0 : Nat) (l1 : Int32) (l2 : Int32) : AZ (E2 m) (f_X10_compare σ l0 l1 l2) := by
  unfold f_X10_compare
  repeat' first | with_reducible exact az2_l | with_reducible exact az2_r (Nat.zero_le _) | with_reducible exact az2_r (by assumption) | with_reducible apply z_needBoth | with_reducible refine az_nm (fun _ => ?_) | with_reducible refine az_bt (m := m) ?_ ?_ (fun _ _ => ?_) | with_reducible refine az_bu (m := m) ?_ (fun _ => ?_) (fun _ _ _ => ?_) | with_reducible refine az_if ?_ ?_ | with_reducible refine az_b2 (fun _ _ => ?_) | with_reducible refine az_bind (fun _ => ?_)
theorem z_areBare {m : Nat} (σ : MsSt) (l0 : Nat) (l1 : Int32) (l2 : Int32) : AZ (E2 m) (f_X10_areBare σ l0 l1 l2) := by
  unfold f_X10_areBare
  repeat' first | with_reducible exact az2_l | with_reducible exact az2_r (Nat.zero_le _) | with_reducible exact az2_r (by assumption) | with_reducible apply z_needBoth | with_reducible refine az_nm (fun _ => ?_) | with_reducible refine az_bt (m := m) ?_ ?_ (fun _ _ => ?_) | with_reducible refine az_bu (m := m) ?_ (fun _ => ?_) (fun _ _ _ => ?_) | with_reducible refine az_if ?_ ?_ | with_reducible refine az_b2 (fun _ _ => ?_) | with_reducible refine az_bind (fun _ => ?_)
theorem z_matches_28 {m : Nat}  : ∀ (n : Nat) (y0 : MsSt) (y1 : Nat) (y2 : Int32) (y3 : Int32) (y4 : Int32), AZ (E2 m) (f_X10_matches_28  n y0 y1 y2 y3 y4) := by
  intro n
  induction n with
  | zero => intros; exact az_none
  | succ n ih =>
    intros
    rw [f_X10_matches_28]
    repeat' first | with_reducible exact az2_l | with_reducible exact az2_r (Nat.zero_le _) | with_reducible exact az2_r (by assumption) | with_reducible apply ih | with_reducible refine az_nm (fun _ => ?_) | with_reducible refine az_bt (m := m) ?_ ?_ (fun _ _ => ?_) | with_reducible refine az_bu (m := m) ?_ (fun _ => ?_) (fun _ _ _ => ?_) | with_reducible refine az_if ?_ ?_ | with_reducible refine az_b2 (fun _ _ => ?_) | with_reducible refine az_bind (fun _ => ?_)
theorem z_matches {m : Nat} (σ : MsSt) (l0 : Nat) (l1 : Int32) (l2 : Int32) (l3 : Int32) : AZ (E2 m) (f_X10_matches σ l0 l1 l2 l3) := by
  unfold f_X10_matches
  repeat' first | with_reducible exact az2_l | with_reducible exact az2_r (Nat.zero_le _) | with_reducible exact az2_r (by assumption) | with_reducible apply z_needIn | with_reducible apply z_needBoth | with_reducible apply z_matches_28 | with_reducible refine az_nm (fun _ => ?_) | with_reducible refine az_bt (m := m) ?_ ?_ (fun _ _ => ?_) | with_reducible refine az_bu (m := m) ?_ (fun _ => ?_) (fun _ _ _ => ?_) | with_reducible refine az_if ?_ ?_ | with_reducible refine az_b2 (fun _ _ => ?_) | with_reducible refine az_bind (fun _ => ?_)
theorem z_match_28 {m : Nat}  : ∀ (n : Nat) (y0 : MsSt) (y1 : Nat) (y2 : Int32) (y3 : Int32) (y4 : Int32) (y5 : Int32), AZ (E2 m) (f_X10_match_28  n y0 y1 y2 y3 y4 y5) := by
  intro n
  induction n with
  | zero => intros; exact az_none
  | succ n ih =>
    intros
    rw [f_X10_match_28]
    repeat' first | with_reducible exact az2_l | with_reducible exact az2_r (Nat.zero_le _) | with_reducible exact az2_r (by assumption) | with_reducible apply ih | with_reducible refine az_nm (fun _ => ?_) | with_reducible refine az_bt (m := m) ?_ ?_ (fun _ _ => ?_) | with_reducible refine az_bu (m := m) ?_ (fun _ => ?_) (fun _ _ _ => ?_) | with_reducible refine az_if ?_ ?_ | with_reducible refine az_b2 (fun _ _ => ?_) | with_reducible refine az_bind (fun _ => ?_)
theorem z_match {m : Nat} (σ : MsSt) (l0 : Nat) (l1 : Int32) (l2 : Int32) (l3 : Int32) (l4 : Int32) : AZ (E2 m) (f_X10_match σ l0 l1 l2 l3 l4) := by
  unfold f_X10_match
  repeat' first | with_reducible exact az2_l | with_reducible exact az2_r (Nat.zero_le _) | with_reducible exact az2_r (by assumption) | with_reducible apply z_needIn | with_reducible apply z_needBoth | with_reducible apply z_match_28 | with_reducible refine az_nm (fun _ => ?_) | with_reducible refine az_bt (m := m) ?_ ?_ (fun _ _ => ?_) | with_reducible refine az_bu (m := m) ?_ (fun _ => ?_) (fun _ _ _ => ?_) | with_reducible refine az_if ?_ ?_ | with_reducible refine az_b2 (fun _ _ => ?_) | with_reducible refine az_bind (fun _ => ?_)
theorem z_saved {m : Nat} (σ : MsSt) (l0 : Nat) (l1 : Int32) (l2 : Int32) : AZ (E2 m) (f_X10_saved σ l0 l1 l2) := by
  unfold f_X10_saved
  repeat' first | with_reducible exact az2_l | with_reducible exact az2_r (Nat.zero_le _) | with_reducible exact az2_r (by assumption) | with_reducible apply z_needIn | with_reducible apply z_needSign | with_reducible apply z_needLine | with_reducible refine az_nm (fun _ => ?_) | with_reducible refine az_bt (m := m) ?_ ?_ (fun _ _ => ?_) | with_reducible refine az_bu (m := m) ?_ (fun _ => ?_) (fun _ _ _ => ?_) | with_reducible refine az_if ?_ ?_ | with_reducible refine az_b2 (fun _ _ => ?_) | with_reducible refine az_bind (fun _ => ?_)
theorem z_bestClass_47 {m : Nat}  : ∀ (n : Nat) (y0 : MsSt) (y1 : Nat) (y2 : Int32) (y3 : Int32) (y4 : Int32) (y5 : Int32), AZ (E2 m) (f_X10_bestClass_47  n y0 y1 y2 y3 y4 y5) := by
  intro n
  induction n with
  | zero => intros; exact az_none
  | succ n ih =>
    intros
    rw [f_X10_bestClass_47]
    repeat' first | with_reducible exact az2_l | with_reducible exact az2_r (Nat.zero_le _) | with_reducible exact az2_r (by assumption) | with_reducible apply ih | with_reducible refine az_nm (fun _ => ?_) | with_reducible refine az_bt (m := m) ?_ ?_ (fun _ _ => ?_) | with_reducible refine az_bu (m := m) ?_ (fun _ => ?_) (fun _ _ _ => ?_) | with_reducible refine az_if ?_ ?_ | with_reducible refine az_b2 (fun _ _ => ?_) | with_reducible refine az_bind (fun _ => ?_)
theorem z_bestClass {m : Nat} (σ : MsSt) (l0 : Nat) (l1 : Int32) (l2 : Int32) : AZ (E2 m) (f_X10_bestClass σ l0 l1 l2) := by
  unfold f_X10_bestClass
  repeat' first | with_reducible exact az2_l | with_reducible exact az2_r (Nat.zero_le _) | with_reducible exact az2_r (by assumption) | with_reducible apply z_needIn | with_reducible apply z_needSign | with_reducible apply z_needLine | with_reducible apply z_bestClass_47 | with_reducible refine az_nm (fun _ => ?_) | with_reducible refine az_bt (m := m) ?_ ?_ (fun _ _ => ?_) | with_reducible refine az_bu (m := m) ?_ (fun _ => ?_) (fun _ _ _ => ?_) | with_reducible refine az_if ?_ ?_ | with_reducible refine az_b2 (fun _ _ => ?_) | with_reducible refine az_bind (fun _ => ?_)
theorem z_meanMarks_37 {m : Nat}  : ∀ (n : Nat) (y0 : MsSt) (y1 : Nat) (y2 : Int32) (y3 : Int32) (y4 : Int32), AZ (E2 m) (f_X10_meanMarks_37  n y0 y1 y2 y3 y4) := by
  intro n
  induction n with
  | zero => intros; exact az_none
  | succ n ih =>
    intros
    rw [f_X10_meanMarks_37]
    repeat' first | with_reducible exact az2_l | with_reducible exact az2_r (Nat.zero_le _) | with_reducible exact az2_r (by assumption) | with_reducible apply ih | with_reducible refine az_nm (fun _ => ?_) | with_reducible refine az_bt (m := m) ?_ ?_ (fun _ _ => ?_) | with_reducible refine az_bu (m := m) ?_ (fun _ => ?_) (fun _ _ _ => ?_) | with_reducible refine az_if ?_ ?_ | with_reducible refine az_b2 (fun _ _ => ?_) | with_reducible refine az_bind (fun _ => ?_)
theorem z_meanMarks {m : Nat} (σ : MsSt) (l0 : Nat) (l1 : Int32) : AZ (E2 m) (f_X10_meanMarks σ l0 l1) := by
  unfold f_X10_meanMarks
  repeat' first | with_reducible exact az2_l | with_reducible exact az2_r (Nat.zero_le _) | with_reducible exact az2_r (by assumption) | with_reducible apply z_needLine | with_reducible apply z_meanMarks_37 | with_reducible refine az_nm (fun _ => ?_) | with_reducible refine az_bt (m := m) ?_ ?_ (fun _ _ => ?_) | with_reducible refine az_bu (m := m) ?_ (fun _ => ?_) (fun _ _ _ => ?_) | with_reducible refine az_if ?_ ?_ | with_reducible refine az_b2 (fun _ _ => ?_) | with_reducible refine az_bind (fun _ => ?_)
theorem z_shortness {m : Nat} (σ : MsSt) (l0 : Nat) (l1 : Int32) : AZ (E2 m) (f_X10_shortness σ l0 l1) := by
  unfold f_X10_shortness
  repeat' first | with_reducible exact az2_l | with_reducible exact az2_r (Nat.zero_le _) | with_reducible exact az2_r (by assumption) | with_reducible apply z_needLine | with_reducible refine az_nm (fun _ => ?_) | with_reducible refine az_bt (m := m) ?_ ?_ (fun _ _ => ?_) | with_reducible refine az_bu (m := m) ?_ (fun _ => ?_) (fun _ _ _ => ?_) | with_reducible refine az_if ?_ ?_ | with_reducible refine az_b2 (fun _ _ => ?_) | with_reducible refine az_bind (fun _ => ?_)
theorem z_hand {m : Nat} (σ : MsSt) (l0 : Nat) (l1 : Int32) : AZ (E2 m) (f_X10_hand σ l0 l1) := by
  unfold f_X10_hand
  repeat' first | with_reducible exact az2_l | with_reducible exact az2_r (Nat.zero_le _) | with_reducible exact az2_r (by assumption) | with_reducible apply z_needLine | with_reducible refine az_nm (fun _ => ?_) | with_reducible refine az_bt (m := m) ?_ ?_ (fun _ _ => ?_) | with_reducible refine az_bu (m := m) ?_ (fun _ => ?_) (fun _ _ _ => ?_) | with_reducible refine az_if ?_ ?_ | with_reducible refine az_b2 (fun _ _ => ?_) | with_reducible refine az_bind (fun _ => ?_)
theorem z_allowIn {m : Nat} (hm : 1 ≤ m) (σ : MsSt) (l0 : Int32) (l1 : Int32) (l2 : Int32) : AZ (Ev m) (f_X10_allowIn σ l0 l1 l2) := by
  unfold f_X10_allowIn
  repeat' first | with_reducible exact azv_n | with_reducible exact azv_s (Nat.zero_le _) | with_reducible exact azv_s (by assumption) | with_reducible refine az_nm (fun _ => ?_) | with_reducible refine az_bt (m := m) ?_ ?_ (fun _ _ => ?_) | with_reducible refine az_bu (m := m) ?_ (fun _ => ?_) (fun _ _ _ => ?_) | with_reducible refine az_if ?_ ?_ | with_reducible refine az_b2 (fun _ _ => ?_) | with_reducible refine az_bind (fun _ => ?_)
theorem z_type {m : Nat} (hm : 1 ≤ m) (σ : MsSt) (l0 : Nat) (l1 : Int32) (l2 : Int32) (l3 : Int32) : AZ (E2 m) (f_X10_type σ l0 l1 l2 l3) := by
  unfold f_X10_type
  repeat' first | with_reducible exact az2_l | with_reducible exact az2_r (Nat.zero_le _) | with_reducible exact az2_r (by assumption) | with_reducible apply z_needSign | with_reducible apply z_needLine | with_reducible apply z_allowIn hm | with_reducible refine az_nm (fun _ => ?_) | with_reducible refine az_bt (m := m) ?_ ?_ (fun _ _ => ?_) | with_reducible refine az_bu (m := m) ?_ (fun _ => ?_) (fun _ _ _ => ?_) | with_reducible refine az_if ?_ ?_ | with_reducible refine az_b2 (fun _ _ => ?_) | with_reducible refine az_bind (fun _ => ?_)
theorem z_erase {m : Nat} (hm : 1 ≤ m) (σ : MsSt) (l0 : Nat) (l1 : Int32) (l2 : Int32) (l3 : Int32) : AZ (E2 m) (f_X10_erase σ l0 l1 l2 l3) := by
  unfold f_X10_erase
  repeat' first | with_reducible exact az2_l | with_reducible exact az2_r (Nat.zero_le _) | with_reducible exact az2_r (by assumption) | with_reducible apply z_needIn | with_reducible apply z_needLine | with_reducible apply z_allowIn hm | with_reducible refine az_nm (fun _ => ?_) | with_reducible refine az_bt (m := m) ?_ ?_ (fun _ _ => ?_) | with_reducible refine az_bu (m := m) ?_ (fun _ => ?_) (fun _ _ _ => ?_) | with_reducible refine az_if ?_ ?_ | with_reducible refine az_b2 (fun _ _ => ?_) | with_reducible refine az_bind (fun _ => ?_)
theorem z_stack {m : Nat} (hm : 1 ≤ m) (σ : MsSt) (l0 : Nat) (l1 : Int32) (l2 : Int32) (l3 : Int32) : AZ (E2 m) (f_X10_stack σ l0 l1 l2 l3) := by
  unfold f_X10_stack
  repeat' first | with_reducible exact az2_l | with_reducible exact az2_r (Nat.zero_le _) | with_reducible exact az2_r (by assumption) | with_reducible apply z_needSign | with_reducible apply z_needCluster | with_reducible apply z_allowIn hm | with_reducible refine az_nm (fun _ => ?_) | with_reducible refine az_bt (m := m) ?_ ?_ (fun _ _ => ?_) | with_reducible refine az_bu (m := m) ?_ (fun _ => ?_) (fun _ _ _ => ?_) | with_reducible refine az_if ?_ ?_ | with_reducible refine az_b2 (fun _ _ => ?_) | with_reducible refine az_bind (fun _ => ?_)
theorem z_strip {m : Nat} (hm : 1 ≤ m) (σ : MsSt) (l0 : Nat) (l1 : Int32) (l2 : Int32) (l3 : Int32) : AZ (E2 m) (f_X10_strip σ l0 l1 l2 l3) := by
  unfold f_X10_strip
  repeat' first | with_reducible exact az2_l | with_reducible exact az2_r (Nat.zero_le _) | with_reducible exact az2_r (by assumption) | with_reducible apply z_needCluster | with_reducible apply z_allowIn hm | with_reducible refine az_nm (fun _ => ?_) | with_reducible refine az_bt (m := m) ?_ ?_ (fun _ _ => ?_) | with_reducible refine az_bu (m := m) ?_ (fun _ => ?_) (fun _ _ _ => ?_) | with_reducible refine az_if ?_ ?_ | with_reducible refine az_b2 (fun _ _ => ?_) | with_reducible refine az_bind (fun _ => ?_)
theorem z_decompose {m : Nat} (σ : MsSt) (l0 : Nat) (l1 : Int32) : AZ (E2 m) (f_X10_decompose σ l0 l1) := by
  unfold f_X10_decompose
  repeat' first | with_reducible exact az2_l | with_reducible exact az2_r (Nat.zero_le _) | with_reducible exact az2_r (by assumption) | with_reducible apply z_needLine | with_reducible refine az_nm (fun _ => ?_) | with_reducible refine az_bt (m := m) ?_ ?_ (fun _ _ => ?_) | with_reducible refine az_bu (m := m) ?_ (fun _ => ?_) (fun _ _ _ => ?_) | with_reducible refine az_if ?_ ?_ | with_reducible refine az_b2 (fun _ _ => ?_) | with_reducible refine az_bind (fun _ => ?_)
theorem z_compose {m : Nat} (σ : MsSt) (l0 : Nat) (l1 : Int32) : AZ (E2 m) (f_X10_compose σ l0 l1) := by
  unfold f_X10_compose
  repeat' first | with_reducible exact az2_l | with_reducible exact az2_r (Nat.zero_le _) | with_reducible exact az2_r (by assumption) | with_reducible apply z_needLine | with_reducible refine az_nm (fun _ => ?_) | with_reducible refine az_bt (m := m) ?_ ?_ (fun _ _ => ?_) | with_reducible refine az_bu (m := m) ?_ (fun _ => ?_) (fun _ _ _ => ?_) | with_reducible refine az_if ?_ ?_ | with_reducible refine az_b2 (fun _ _ => ?_) | with_reducible refine az_bind (fun _ => ?_)
theorem z_join {m : Nat} (σ : MsSt) (l0 : Nat) (l1 : Int32) (l2 : Int32) : AZ (E2 m) (f_X10_join σ l0 l1 l2) := by
  unfold f_X10_join
  repeat' first | with_reducible exact az2_l | with_reducible exact az2_r (Nat.zero_le _) | with_reducible exact az2_r (by assumption) | with_reducible apply z_needLine | with_reducible refine az_nm (fun _ => ?_) | with_reducible refine az_bt (m := m) ?_ ?_ (fun _ _ => ?_) | with_reducible refine az_bu (m := m) ?_ (fun _ => ?_) (fun _ _ _ => ?_) | with_reducible refine az_if ?_ ?_ | with_reducible refine az_b2 (fun _ _ => ?_) | with_reducible refine az_bind (fun _ => ?_)
theorem z_setClass {m : Nat} (hm : 1 ≤ m) (σ : MsSt) (l0 : Nat) (l1 : Int32) (l2 : Int32) : AZ (E2 m) (f_X10_setClass σ l0 l1 l2) := by
  unfold f_X10_setClass
  repeat' first | with_reducible exact az2_l | with_reducible exact az2_r (Nat.zero_le _) | with_reducible exact az2_r (by assumption) | with_reducible apply z_needSign | with_reducible apply z_allowIn hm | with_reducible refine az_nm (fun _ => ?_) | with_reducible refine az_bt (m := m) ?_ ?_ (fun _ _ => ?_) | with_reducible refine az_bu (m := m) ?_ (fun _ => ?_) (fun _ _ _ => ?_) | with_reducible refine az_if ?_ ?_ | with_reducible refine az_b2 (fun _ _ => ?_) | with_reducible refine az_bind (fun _ => ?_)
theorem z_setSpare {m : Nat} (hm : 1 ≤ m) (σ : MsSt) (l0 : Nat) (l1 : Int32) (l2 : Int32) : AZ (E2 m) (f_X10_setSpare σ l0 l1 l2) := by
  unfold f_X10_setSpare
  repeat' first | with_reducible exact az2_l | with_reducible exact az2_r (Nat.zero_le _) | with_reducible exact az2_r (by assumption) | with_reducible apply z_needSign | with_reducible apply z_allowIn hm | with_reducible refine az_nm (fun _ => ?_) | with_reducible refine az_bt (m := m) ?_ ?_ (fun _ _ => ?_) | with_reducible refine az_bu (m := m) ?_ (fun _ => ?_) (fun _ _ _ => ?_) | with_reducible refine az_if ?_ ?_ | with_reducible refine az_b2 (fun _ _ => ?_) | with_reducible refine az_bind (fun _ => ?_)
theorem z_format_51 {m : Nat} (k28 : MsSt → Nat → Nat → Int32 → Option ((Int32 ⊕ Nat) × MsSt)) (σ : MsSt) (l0 : Nat) (l3 : Nat) (l4 : Int32) (hk28 : ∀ (y0 : MsSt) (y1 : Nat) (y2 : Nat) (y3 : Int32), AZ (E2 m) (k28 y0 y1 y2 y3)) : AZ (E2 m) (f_X10_format_51 k28 σ l0 l3 l4) := by
  unfold f_X10_format_51
  repeat' first | with_reducible exact az2_l | with_reducible exact az2_r (Nat.zero_le _) | with_reducible exact az2_r (by assumption) | with_reducible apply hk28 | with_reducible refine az_nm (fun _ => ?_) | with_reducible refine az_bt (m := m) ?_ ?_ (fun _ _ => ?_) | with_reducible refine az_bu (m := m) ?_ (fun _ => ?_) (fun _ _ _ => ?_) | with_reducible refine az_if ?_ ?_ | with_reducible refine az_b2 (fun _ _ => ?_) | with_reducible refine az_bind (fun _ => ?_)
theorem z_format_28 {m : Nat}  : ∀ (n : Nat) (y0 : MsSt) (y1 : Nat) (y2 : Nat) (y3 : Int32), AZ (E2 m) (f_X10_format_28  n y0 y1 y2 y3) := by
  intro n
  induction n with
  | zero => intros; exact az_none
  | succ n ih =>
    intros
    rw [f_X10_format_28]
    repeat' first | with_reducible exact az2_l | with_reducible exact az2_r (Nat.zero_le _) | with_reducible exact az2_r (by assumption) | with_reducible apply ih | with_reducible apply z_format_51 | with_reducible refine az_nm (fun _ => ?_) | with_reducible refine az_bt (m := m) ?_ ?_ (fun _ _ => ?_) | with_reducible refine az_bu (m := m) ?_ (fun _ => ?_) (fun _ _ _ => ?_) | with_reducible refine az_if ?_ ?_ | with_reducible refine az_b2 (fun _ _ => ?_) | with_reducible refine az_bind (fun _ => ?_)
theorem z_format {m : Nat} (σ : MsSt) (l0 : Nat) (l1 : Int32) (l2 : Int32) : AZ (E2 m) (f_X10_format σ l0 l1 l2) := by
  unfold f_X10_format
  repeat' first | with_reducible exact az2_l | with_reducible exact az2_r (Nat.zero_le _) | with_reducible exact az2_r (by assumption) | with_reducible apply z_needIn | with_reducible apply z_needLine | with_reducible apply z_format_28 | with_reducible refine az_nm (fun _ => ?_) | with_reducible refine az_bt (m := m) ?_ ?_ (fun _ _ => ?_) | with_reducible refine az_bu (m := m) ?_ (fun _ => ?_) (fun _ _ _ => ?_) | with_reducible refine az_if ?_ ?_ | with_reducible refine az_b2 (fun _ _ => ?_) | with_reducible refine az_bind (fun _ => ?_)
