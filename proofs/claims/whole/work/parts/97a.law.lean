/-! the law: its start -/
set_option maxRecDepth 100000
theorem mF_1 (k : Nat) : gI mF 145 k = 0 := rfl
theorem mF_192 (k : Nat) : gI mF 191 k = plainF (gI md22 191) k := by
  unfold mF
  simp only [mxa]
theorem pl_0 (f : Nat → Int32) (k : Nat) (h : 5 ≤ k) (h2 : k < 319) : plainF f k = 0 := by
  unfold plainF
  rw [if_pos h2, if_neg (by omega), if_neg (by omega)]
theorem Vm_mF : ∀ v, isV v → Vm mF v := by
  have key : ∀ f, f < 10 → gR mF 2 f = some (4 + 3 * f) ∧ gR mF 35 f = some (37 + 3 * f) ∧ gR mF 70 f = some (72 + 3 * f) ∧ gR mF 103 f = some (105 + 3 * f) := by decide +kernel
  intro v hv
  refine ⟨fun f => f, fun f hf => ⟨hf, ?_⟩, fun f g _ _ h => h⟩
  obtain ⟨a, b, c, e⟩ := key f hf
  rcases hv with rfl | rfl | rfl | rfl
  · exact a
  · exact b
  · exact c
  · exact e
theorem Inv0 : Inv 0 mF := by
  have q : ∀ k, 5 ≤ k → k < 319 → gI mF 191 k = 0 := fun k h1 h2 => (mF_192 k).trans (pl_0 _ k h1 h2)
  refine ⟨by omega, ⟨rfl, fun _ _ _ _ _ _ => rfl, Vm_mF⟩, ⟨⟨0, by omega, by decide +kernel, by decide +kernel, fun k hk => absurd hk (by omega)⟩, fun k => by rw [mF_1]; rfl, by decide +kernel, by decide +kernel⟩, ⟨0, 0, 3, ⟨⟨by decide +kernel, by omega⟩, ⟨by decide +kernel, by omega⟩, ⟨by decide +kernel, by omega, by omega⟩, ⟨20, by omega, by decide +kernel⟩, ⟨0, by omega, by decide +kernel⟩, fun o ho => absurd ho (by omega), fun f hf => absurd hf (by omega), fun f hf => absurd hf (by omega), ⟨fun f g hf hg => ?_, fun f hf => q _ (by omega) (by omega), fun f g hf hg _ => q _ (by omega) (by omega)⟩, fun f g hf hg => ⟨⟨0, by omega, q _ (by omega) (by omega)⟩, fun _ => q _ (by omega) (by omega)⟩⟩, ⟨⟨by decide +kernel, by decide +kernel, by decide +kernel, by decide +kernel, by decide +kernel, by decide +kernel⟩, fun o ho => absurd ho (by omega), fun f hf => absurd hf (by omega)⟩⟩, fun i hi => ?_, fun r hr => ?_⟩
  · rw [q _ (by omega) (by omega), q _ (by omega) (by omega)]
    exact ⟨Or.inl rfl, rfl⟩
  · rcases (by omega : i = 0 ∨ i = 1) with rfl | rfl <;> exact Or.inl ⟨by decide +kernel, by decide +kernel⟩
  · rcases (by omega : r = 0 ∨ r = 1 ∨ r = 2 ∨ r = 3) with rfl | rfl | rfl | rfl <;> exact Or.inl ⟨by decide +kernel, by decide +kernel⟩
