/-! ===== what holds at the start ===== -/
theorem inv0 {zT zN : CS} (hT : RT zT) (hN : RTN zN) (hF : FRN zN) : INV (st z0 1 2 2) zT z0 z0 (fun _ => z0) z0 z0 zN := by
  refine ⟨2, 0, fun _ _ => 0, 0, 0, fun _ => (0, fun _ _ => 0, 0), ⟨by omega, by omega, ⟨by omega, fun i hi => absurd hi (by omega)⟩, by decide, ⟨by omega, fun k hk => absurd hk (by omega)⟩, rfl, ⟨⟨rfl, fun i hi => absurd hi (by omega)⟩, rfl⟩, ⟨0, by omega, rfl, rfl, fun k hk => absurd hk (by omega)⟩, hT, ?_, ⟨0, rfl, by omega, fun t ht => absurd ht (by omega), fun t _ => ⟨0, by omega, rfl⟩⟩, Or.inl rfl⟩, hF.2.1, ⟨⟨?_, fun i hi => absurd hi (by omega)⟩, ?_⟩, ⟨hF.2.2, fun k hk => absurd hk (by omega)⟩, hN⟩
  · have b : ∀ (j t i : Nat) (x : Bool), bt (z0 j t) i = (decide (i < 0) && x) := fun j t i x => by
      rw [show z0 j t = 0 from rfl, b_0, decide_eq_false (Nat.not_lt_zero i)]; rfl
    exact ⟨fun f _ i _ => b _ _ _ _, fun f _ i _ => b _ _ _ _, fun f _ i _ => b _ _ _ _, fun i hi => absurd hi (by omega), fun i _ => b _ _ _ _, fun i _ => b _ _ _ _⟩
  · rw [hF.1 7 (by omega) (by omega)]; rfl
  · rw [hF.1 7 (by omega) (by omega)]; rfl
