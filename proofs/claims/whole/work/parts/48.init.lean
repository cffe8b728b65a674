/-- the start: nothing stands in the heap -/
theorem Sim_0 {st r sE ki va od ro : Nat → Int32} (hr : ∀ q, q < 8 → r q = (-1 : Int32)) (ho : ∀ q, q < 8 → ro q = (-1 : Int32)) : Sim (fun _ => 0) r st 0 0 0 0 (fun _ => 0) (fun _ => 0) sE ki va 0 od ro := by
  refine ⟨rfl, 0, fun _ => 0, fun _ _ => 0, fun _ _ => 0, fun _ _ => 0, fun _ => 0, fun _ => 1000, fun _ => 0, ?_, ?_⟩
  · refine ⟨by omega, fun i hi => absurd hi (by omega), by show (0 : Nat) ≤ 256; omega, rfl, rfl, fun i hi => absurd hi (by omega), fun q hq => ⟨Or.inl rfl, by rw [adr_no]; exact hr q hq⟩, fun i hi => absurd hi (by omega), fun i hi => absurd hi (by omega), fun j _ _ => rfl⟩
  · refine ⟨by omega, rfl, fun i hi => absurd hi (by omega), fun i j hi => absurd hi (by omega), fun t _ => Or.inl ⟨rfl, fun i hi => absurd hi (by omega)⟩, fun t _ => ⟨0, by omega, rfl⟩, fun i hi => absurd hi (by omega), fun i hi => absurd hi (by omega), fun q hq => ⟨Or.inl rfl, by rw [adr_no]; exact ho q hq⟩⟩
theorem x_initRoots : ∃ r', fXA_fill 8 (fun _ => 0) (-1 : Int32) = some r' ∧ ∀ q, q < 8 → r' q = (-1 : Int32) := by
  obtain ⟨r', h1, h2⟩ := x_fill (k := 8) (v := (-1 : Int32)) (f := fun _ => 0) (by omega)
  exact ⟨r', h1, fun q hq => by rw [h2 q, if_pos hq]⟩
