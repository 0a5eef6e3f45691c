/-! the invariant at the start -/
theorem s0_fin {P : Nat → Prop} (n : Nat) (h : ∀ k : Fin n, P k.1) : ∀ k, k < n → P k := fun k hk => h ⟨k, hk⟩
theorem s0_gok : GOk (s0.2.1 116) 0 0 0 0 0 := ⟨⟨rfl, by decide, rfl, by decide, rfl, by decide, rfl, by decide⟩, fun i h => absurd h (Nat.not_lt_zero i), fun i h => absurd h (Nat.not_lt_zero i), fun i h => absurd h (Nat.not_lt_zero i), fun i h => absurd h (Nat.not_lt_zero i), fun i h => absurd h (Nat.not_lt_zero i), fun i h => absurd h (Nat.not_lt_zero i), 0, Nat.le_refl 0, rfl⟩
theorem s0_m : INVm s0 := by
  refine ⟨⟨?_, ?_, ?_, ?_, ?_⟩, fun c _ => ⟨0, rfl, by decide⟩⟩
  · exact s0_fin 6 (by decide +kernel)
  · exact s0_fin 3 (by decide +kernel)
  · exact s0_fin 15 (by decide +kernel)
  · exact s0_fin 7 (by decide +kernel)
  · exact s0_fin 21 (by decide +kernel)
theorem s0_p : INVp s0 := by
  have e1 : ∀ t, t < 6 → s0.1 (103 + 2 * t) 1 = s0.2.1 134 t ∧ s0.1 (103 + 2 * t) 2 = s0.2.1 135 t := s0_fin 6 (by decide +kernel)
  have e2 : ∀ t, t < 6 → s0.2.1 134 t = -1 := s0_fin 6 (by decide +kernel)
  refine ⟨fun t ht => ⟨(e1 t ht).1, (e1 t ht).2, fun j _ => rfl⟩, fun t ht => ⟨⟨0, by decide, rfl⟩, Or.inl (e2 t ht)⟩, fun t _ _ => rfl, fun t ht h4 => ?_⟩
  rw [e2 t ht] at h4
  exact absurd h4 (by decide)
theorem s0_inv : INV s0 := by
  refine ⟨0, 0, 0, 0, 0, 0, 0, ⟨⟨rfl, rfl, by decide +kernel, ⟨rfl, fun i h => absurd h (Nat.not_lt_zero i)⟩, ⟨rfl, fun i h => absurd h (Nat.not_lt_zero i)⟩, ⟨rfl, fun i h => absurd h (Nat.not_lt_zero i)⟩, ⟨rfl, fun i h => absurd h (Nat.not_lt_zero i)⟩⟩, s0_gok⟩, ⟨rfl, fun z => absurd rfl z⟩, s0_m, ⟨by decide, rfl, rfl⟩, ⟨rfl, rfl, ⟨by decide, fun i h => absurd h (Nat.not_lt_zero i)⟩, fun i h => absurd h (Nat.not_lt_zero i)⟩, fun i h => absurd h (Nat.not_lt_zero i), ⟨rfl, rfl⟩, ⟨by decide, rfl, rfl, rfl⟩, s0_p⟩
