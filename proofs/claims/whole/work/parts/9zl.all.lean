/-! every call, under the whole invariant, whatever the long numbers hold when the reference is asked -/
section Al
variable {β γ : Type} {R : β → Int32 → γ → Prop}
def IV (σ : MsSt) : Prop := ∃ w, InvF σ w
theorem IV.ph {σ : MsSt} {x : (Nat → Nat → Int64) × (Nat → Nat → UInt64)} (h : IV σ) : IV (ph x σ) := by
  obtain ⟨w, h⟩ := h
  exact ⟨w, h.other rfl⟩
/-- a call that may change what the class holds -/
def AskW (fc : MsSt → Option (β × MsSt)) (fm : MsSt → Option (γ × MsSt)) (R : β → Int32 → γ → Prop) : Prop := ∀ σ, IV σ → ∃ r σ1, fc σ = some (r, σ1) ∧ ∀ x, ∃ b σ2, fm (ph x σ1) = some (b, ph x σ2) ∧ R r (ms_i σ2 493 7) b ∧ IV σ2
/-- a call that only reads -/
def AskR (fc : MsSt → Option β) (fm : MsSt → Option (γ × MsSt)) (R : β → Int32 → γ → Prop) : Prop := ∀ σ, IV σ → ∃ r, fc σ = some r ∧ ∀ x, ∃ b σ2, fm (ph x σ) = some (b, ph x σ2) ∧ R r (ms_i σ2 493 7) b ∧ IV σ2
theorem mkW {fc : MsSt → Option (β × MsSt)} {fm : MsSt → Option (γ × MsSt)} (h : ∀ σ w, InvF σ w → ∃ r σ1 b σ2, fc σ = some (r, σ1) ∧ fm σ1 = some (b, σ2) ∧ R r (ms_i σ2 493 7) b ∧ IV σ2) (hp : ∀ σ x, fm (ph x σ) = (fm σ).map fun p => (p.1, ph x p.2)) : AskW fc fm R := by
  rintro σ ⟨w, hI⟩
  obtain ⟨r, σ1, b, σ2, a1, a2, a3, a4⟩ := h σ w hI
  exact ⟨r, σ1, a1, fun x => ⟨b, σ2, by rw [hp, a2]; rfl, a3, a4⟩⟩
theorem mkS {fc : MsSt → Option (β × MsSt)} {fm : MsSt → Option (γ × MsSt)} (h : ∀ σ w, InvS σ w → ∃ r σ1 b σ2, fc σ = some (r, σ1) ∧ Fr FScr σ σ1 ∧ fm σ1 = some (b, σ2) ∧ R r (ms_i σ2 493 7) b ∧ Fr FScr σ1 σ2) (hp : ∀ σ x, fm (ph x σ) = (fm σ).map fun p => (p.1, ph x p.2)) : AskW fc fm R :=
  mkW (fun σ w hI => by
    obtain ⟨⟨p, n, H, b', S, hM⟩, -⟩ := id hI
    obtain ⟨r, σ1, b, σ2, a1, a2, a3, a4, a5⟩ := h σ w hM.1
    exact ⟨r, σ1, b, σ2, a1, a3, a4, w, hI.scr (a2.trans a5)⟩) hp
theorem mkM {fc : MsSt → Option ((Int32 ⊕ Nat) × MsSt)} {fm : MsSt → Option (Int32 × MsSt)} (h : ∀ σ w p n H b S, InvM σ w p n H b S → MO σ w b S (fc σ) fm) (hp : ∀ σ x, fm (ph x σ) = (fm σ).map fun p => (p.1, ph x p.2)) : AskW fc fm Ok :=
  mkW (fun σ w hI => by
    obtain ⟨⟨p, n, H, b', S, hM⟩, -⟩ := id hI
    obtain ⟨r, σ1, b, σ2, w', p', n', H', a1, a2, a3, a4, a5, a6⟩ := h σ w p n H b' S hM
    exact ⟨r, σ1, b, σ2, a1, a2, a3, w', hI.mut ⟨p', n', H', b', S, a4⟩ a5 a6⟩) hp
theorem mkR {fc : MsSt → Option β} {fm : MsSt → Option (γ × MsSt)} (h : ∀ σ w, InvF σ w → ∃ r b σ2, fc σ = some r ∧ fm σ = some (b, σ2) ∧ R r (ms_i σ2 493 7) b ∧ Fr FScr σ σ2) (hp : ∀ σ x, fm (ph x σ) = (fm σ).map fun p => (p.1, ph x p.2)) : AskR fc fm R := by
  rintro σ ⟨w, hI⟩
  obtain ⟨r, b, σ2, a1, a2, a3, a4⟩ := h σ w hI
  exact ⟨r, a1, fun x => ⟨b, σ2, by rw [hp, a2]; rfl, a3, w, hI.scr a4⟩⟩
theorem inS {σ : MsSt} {w : Nat → Nat} (h : InvF σ w) : InvS σ w := by
  obtain ⟨⟨p, n, H, b', S, hM⟩, -⟩ := h
  exact hM.1
def Eq7 (r : Int32) (t b : Int32) : Prop := t = 0 ∧ r = b
theorem k_load (a : Int32) : AskW (fun σ => f_X10_load σ 0 a) (fun σ => f_X12_load σ 493 a) OkL := mkW (fun σ w h => by
  obtain ⟨r, σ1, b, σ2, w', a1, a2, a3, a4⟩ := q_load h a
  exact ⟨r, σ1, b, σ2, a1, a2, a3, w', a4⟩) (fun _ _ => ph_load _ _)
theorem k_errorPosition : AskR (fun σ => f_X10_errorPosition σ 0) (fun σ => f_X12_errorPosition σ 493) Eq7 := mkR (fun σ w h => by
  obtain ⟨r, b, σ2, a1, a2, a3, a4, a5⟩ := q_errorPosition h
  exact ⟨r, b, σ2, a1, a2, ⟨a4, a3⟩, a5⟩) (fun _ _ => ph_errorPosition _)
theorem k_size (a : Int32) : AskR (fun σ => f_X10_size σ 0 a) (fun σ => f_X12_size σ 493 a) Ok := mkR (fun _ _ h => q_size (inS h) a) (fun _ _ => ph_size _ _)
theorem k_sign (a b : Int32) : AskR (fun σ => f_X10_sign σ 0 a b) (fun σ => f_X12_sign σ 493 a b) Ok := mkR (fun _ _ h => q_sign (inS h) a b) (fun _ _ => ph_sign _ _ _)
theorem k_letter (a b : Int32) : AskR (fun σ => f_X10_letter σ 0 a b) (fun σ => f_X12_letter σ 493 a b) Ok := mkR (fun _ _ h => q_letter h a b) (fun _ _ => ph_letter _ _ _)
theorem k_expanded (a b : Int32) : AskR (fun σ => f_X10_expanded σ 0 a b) (fun σ => f_X12_expanded σ 493 a b) Ok := mkR (fun _ _ h => q_expanded (inS h) a b) (fun _ _ => ph_expanded _ _ _)
theorem k_pairOf (a b : Int32) : AskR (fun σ => f_X10_pairOf σ 0 a b) (fun σ => f_X12_pairOf σ 493 a b) Ok := mkR (fun _ _ h => q_pairOf (inS h) a b) (fun _ _ => ph_pairOf _ _ _)
theorem k_used (a : Int32) : AskR (fun σ => f_X10_used σ 0 a) (fun σ => f_X12_used σ 493 a) Ok := mkR (fun _ _ h => q_used (inS h) a) (fun _ _ => ph_used _ _)
theorem k_recomposed (a : Int32) : AskW (fun σ => f_X10_recomposed σ 0 a) (fun σ => f_X12_recomposed σ 493 a) Ok := mkS (fun _ _ h => q_recomposed h a) (fun _ _ => ph_recomposed _ _)
theorem k_line (a b : Int32) : AskW (fun σ => f_X10_line σ 0 a b) (fun σ => f_X12_line σ 493 a b) Ok := mkS (fun _ _ h => q_line h a b) (fun _ _ => ph_line _ _ _)
theorem k_at (a b c : Int32) : AskW (fun σ => f_X10_at σ 0 a b c) (fun σ => f_X12_at σ 493 a b c) Ok := mkS (fun _ _ h => q_at h a b c) (fun _ _ => ph_at _ _ _ _)
theorem k_unlike (a b : Int32) : AskW (fun σ => f_X10_unlike σ 0 a b) (fun σ => f_X12_unlike σ 493 a b) Ok := mkS (fun _ _ h => q_unlike h a b) (fun _ _ => ph_unlike _ _ _)
theorem k_clusterOf (a b : Int32) : AskR (fun σ => f_X10_clusterOf σ 0 a b) (fun σ => f_X12_clusterOf σ 493 a b) Ok := mkR (fun _ _ h => q_clusterOf (inS h) a b) (fun _ _ => ph_clusterOf _ _ _)
theorem k_cluster (a b c : Int32) : AskW (fun σ => f_X10_cluster σ 0 a b c) (fun σ => f_X12_cluster σ 493 a b c) Ok := mkS (fun _ _ h => q_cluster h a b c) (fun _ _ => ph_cluster _ _ _ _)
theorem k_box (a b c d : Int32) : AskW (fun σ => f_X10_box σ 0 a b c d) (fun σ => f_X12_box σ 493 a b c d) Ok := mkS (fun _ _ h => q_box h a b c d) (fun _ _ => ph_box _ _ _ _ _)
theorem k_spellings (a b : Int32) : AskW (fun σ => f_X10_spellings σ 0 a b) (fun σ => f_X12_spellings σ 493 a b) OkJ := mkS (fun _ _ h => q_spellings h a b) (fun _ _ => ph_spellings _ _ _)
theorem k_clashes (a b : Int32) : AskW (fun σ => f_X10_clashes σ 0 a b) (fun σ => f_X12_clashes σ 493 a b) Ok := mkS (fun _ _ h => q_clashes h a b) (fun _ _ => ph_clashes _ _ _)
theorem k_fullest (a : Int32) : AskW (fun σ => f_X10_fullest σ 0 a) (fun σ => f_X12_fullest σ 493 a) Ok := mkS (fun _ _ h => q_fullest h a) (fun _ _ => ph_fullest _ _)
theorem k_compare (a b : Int32) : AskW (fun σ => f_X10_compare σ 0 a b) (fun σ => f_X12_compare σ 493 a b) Ok := mkS (fun _ _ h => q_compare h a b) (fun _ _ => ph_compare _ _ _)
theorem k_areBare (a b : Int32) : AskW (fun σ => f_X10_areBare σ 0 a b) (fun σ => f_X12_areBare σ 493 a b) Ok := mkS (fun _ _ h => q_areBare h a b) (fun _ _ => ph_areBare _ _ _)
theorem k_matches (a b c : Int32) : AskW (fun σ => f_X10_matches σ 0 a b c) (fun σ => f_X12_matches σ 493 a b c) Ok := mkS (fun _ _ h => q_matches h a b c) (fun _ _ => ph_matches _ _ _ _)
theorem k_match (a b c d : Int32) : AskW (fun σ => f_X10_match σ 0 a b c d) (fun σ => f_X12_match σ 493 a b c d) Ok := mkS (fun _ _ h => q_match h a b c d) (fun _ _ => ph_match _ _ _ _ _)
theorem k_saved (a b : Int32) : AskW (fun σ => f_X10_saved σ 0 a b) (fun σ => f_X12_saved σ 493 a b) Ok := mkS (fun _ _ h => q_saved h a b) (fun _ _ => ph_saved _ _ _)
theorem k_bestClass (a b : Int32) : AskW (fun σ => f_X10_bestClass σ 0 a b) (fun σ => f_X12_bestClass σ 493 a b) Ok := mkS (fun _ _ h => q_bestClass h a b) (fun _ _ => ph_bestClass _ _ _)
theorem k_meanMarks (a : Int32) : AskW (fun σ => f_X10_meanMarks σ 0 a) (fun σ => f_X12_meanMarks σ 493 a) OkD := mkS (fun _ _ h => q_meanMarks h a) (fun _ _ => ph_meanMarks _ _)
theorem k_shortness (a : Int32) : AskW (fun σ => f_X10_shortness σ 0 a) (fun σ => f_X12_shortness σ 493 a) OkF := mkS (fun _ _ h => q_shortness h a) (fun _ _ => ph_shortness _ _)
theorem k_hand (a : Int32) : AskW (fun σ => f_X10_hand σ 0 a) (fun σ => f_X12_hand σ 493 a) Ok := mkM (fun _ _ _ _ _ _ _ h => q_hand h a) (fun _ _ => ph_hand _ _)
theorem k_type (a b c : Int32) : AskW (fun σ => f_X10_type σ 0 a b c) (fun σ => f_X12_type σ 493 a b c) Ok := mkM (fun _ _ _ _ _ _ _ h => q_type h a b c) (fun _ _ => ph_type _ _ _ _)
theorem k_erase (a b c : Int32) : AskW (fun σ => f_X10_erase σ 0 a b c) (fun σ => f_X12_erase σ 493 a b c) Ok := mkM (fun _ _ _ _ _ _ _ h => q_erase h a b c) (fun _ _ => ph_erase _ _ _ _)
theorem k_stack (a b c : Int32) : AskW (fun σ => f_X10_stack σ 0 a b c) (fun σ => f_X12_stack σ 493 a b c) Ok := mkM (fun _ _ _ _ _ _ _ h => q_stack h a b c) (fun _ _ => ph_stack _ _ _ _)
theorem k_strip (a b c : Int32) : AskW (fun σ => f_X10_strip σ 0 a b c) (fun σ => f_X12_strip σ 493 a b c) Ok := mkM (fun _ _ _ _ _ _ _ h => q_strip h a b c) (fun _ _ => ph_strip _ _ _ _)
theorem k_decompose (a : Int32) : AskW (fun σ => f_X10_decompose σ 0 a) (fun σ => f_X12_decompose σ 493 a) Ok := mkM (fun _ _ _ _ _ _ _ h => q_decompose h a) (fun _ _ => ph_decompose _ _)
theorem k_compose (a : Int32) : AskW (fun σ => f_X10_compose σ 0 a) (fun σ => f_X12_compose σ 493 a) Ok := mkM (fun _ _ _ _ _ _ _ h => q_compose h a) (fun _ _ => ph_compose _ _)
theorem k_join (a b : Int32) : AskW (fun σ => f_X10_join σ 0 a b) (fun σ => f_X12_join σ 493 a b) Ok := mkM (fun _ _ _ _ _ _ _ h => q_join h a b) (fun _ _ => ph_join _ _ _)
theorem k_setClass (a b : Int32) : AskW (fun σ => f_X10_setClass σ 0 a b) (fun σ => f_X12_setClass σ 493 a b) Ok := mkM (fun _ _ _ _ _ _ _ h => q_setClass h a b) (fun _ _ => ph_setClass _ _ _)
theorem k_setSpare (a : Int32) (P : Prop) [Decidable P] : AskW (fun σ => f_X10_setSpare σ 0 a (b01 P)) (fun σ => f_X12_setSpare σ 493 a (b01 P)) Ok := mkM (fun _ _ _ _ _ _ _ h => q_setSpare h a P) (fun _ _ => ph_setSpare _ _ _)
theorem k_format (a b : Int32) : AskW (fun σ => f_X10_format σ 0 a b) (fun σ => f_X12_format σ 493 a b) Ok := mkW (fun σ w h => by
  obtain ⟨r, σ1, b', σ2, a1, a2, a3, a4⟩ := q_format h a b
  exact ⟨r, σ1, b', σ2, a1, a2, a3, w, a4⟩) (fun _ _ => ph_format _ _ _)
theorem k_feed (a b c d e : Int32) : AskW (fun σ => f_X10_feed σ 0 a b c d e) (fun σ => f_X12_feed σ 493 a b c d e) Eq7 := mkW (fun σ w h => by
  obtain ⟨r, σ1, σ2, a1, a2, a3, a4⟩ := q_feed h a b c d e
  exact ⟨r, σ1, r, σ2, a1, a2, ⟨a3, rfl⟩, w, a4⟩) (fun _ _ => ph_feed _ _ _ _ _ _)
theorem k_formattedByte (a : Int32) : AskR (fun σ => f_X10_formattedByte σ 0 a) (fun σ => f_X12_formattedByte σ 493 a) Eq7 := mkR (fun σ w h => by
  obtain ⟨r, b, σ2, a1, a2, a3, a4, a5⟩ := q_formattedByte h a
  exact ⟨r, b, σ2, a1, a2, ⟨a4, a3⟩, a5⟩) (fun _ _ => ph_formattedByte _ _)
theorem k_undoCount : AskR (fun σ => f_X10_undoCount σ 0) (fun σ => f_X12_undoCount σ 493) Eq7 := mkR (fun σ w h => by
  obtain ⟨⟨p, n, H, b', S, hM⟩, -⟩ := h
  obtain ⟨r, b, σ2, a1, a2, a3, a4, a5⟩ := q_undoCount hM
  exact ⟨r, b, σ2, a1, a2, ⟨a4, a3⟩, a5⟩) (fun _ _ => ph_undoCount _)
end Al
