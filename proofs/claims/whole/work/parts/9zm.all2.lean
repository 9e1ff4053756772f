/-! undo and the snapshot, under the whole invariant -/
section Am
theorem k_undo : AskW (fun σ => f_X10_undo σ 0) (fun σ => f_X12_undo σ 493) Eq7 := mkW (fun σ w h => by
  obtain ⟨⟨p, n, H, b', S, hM⟩, -⟩ := id h
  obtain ⟨r, σ1, b, σ2, w', p', n', a1, a2, a3, a4, a5, a6, a7⟩ := q_undo hM
  exact ⟨r, σ1, b, σ2, a1, a2, ⟨a4, a3⟩, w', h.mut ⟨p', n', H, b', S, a5⟩ a6 a7⟩) (fun _ _ => ph_undo _)
theorem k_restoreSnapshot : AskW (fun σ => f_X10_restoreSnapshot σ 0) (fun σ => f_X12_restoreSnapshot σ 493) Eq7 := mkW (fun σ w h => by
  obtain ⟨⟨p, n, H, b', S, hM⟩, -⟩ := id h
  obtain ⟨r, σ1, b, σ2, w', n', a1, a2, a3, a4, a5, a6, a7⟩ := q_restoreSnapshot hM
  exact ⟨r, σ1, b, σ2, a1, a2, ⟨a4, a3⟩, w', h.mut ⟨p, n', H, b', S, a5⟩ a6 a7⟩) (fun _ _ => ph_restoreSnapshot _)
theorem k_saveSnapshot {σ : MsSt} (h : IV σ) : ∃ σ1, f_X10_saveSnapshot σ 0 = some σ1 ∧ ∀ x, ∃ σ2, f_X12_saveSnapshot (ph x σ1) 493 = some (ph x σ2) ∧ IV σ2 := by
  obtain ⟨w, hI⟩ := h
  obtain ⟨⟨p, n, H, b', S, hM⟩, -⟩ := id hI
  obtain ⟨σ1, σ2, a1, a2, a3, a4, a5⟩ := q_saveSnapshot hM
  exact ⟨σ1, a1, fun x => ⟨σ2, by rw [ph_saveSnapshot, a2]; rfl, w, hI.mut ⟨p, n, H, 1, w, a4⟩ SameSg.rfl' a5⟩⟩
end Am
