theorem inv0 {μ : Mem} (h : Fr pI0 muM μ) (h1 : gi μ 146 0 = -1) (h2 : gi μ 148 0 = 1) (h3 : gi μ 149 0 = 1) : Inv LRel μ := by
  have c : ∀ a k, ¬ pI0 a k → gi μ a k = gi muM a k := h.1
  have n : ∀ a k, (a ≠ 146 ∧ a ≠ 148 ∧ a ≠ 149) → ¬ pI0 a k := fun a k z => by unfold pI0; omega
  have e : ∀ a k, (a ≠ 146 ∧ a ≠ 148 ∧ a ≠ 149) → gi μ a k = gi muM a k := fun a k z => c a k (n a k z)
  refine ⟨⟨1, 0, ?_, ?_, ?_, ?_, ⟨by omega, by omega, by omega⟩, fun j hj => ?_, fun i hi => absurd hi (by omega), ⟨fun j hj => ?_, fun i hi => ?_⟩, ⟨fun f hf j hj => ?_, fun f _ _ i hi => absurd hi (by omega)⟩⟩, ⟨⟨?_, ?_, ?_⟩, ?_, ?_, ?_⟩, ⟨0, by omega, ?_, ?_, fun j hj => absurd hj (by omega)⟩, Or.inl ⟨?_, ?_⟩, ⟨0, 0, ?_, ?_, ?_, ⟨by omega, by omega, fun k hk => absurd hk (by omega), fun p hp => absurd hp (by omega)⟩, fun k hk => absurd hk (by omega)⟩⟩
  · exact (e _ _ (by omega)).trans (by decide +kernel)
  · exact (e _ _ (by omega)).trans (by decide +kernel)
  · exact (e _ _ (by omega)).trans (by decide +kernel)
  · exact (e _ _ (by omega)).trans (by decide +kernel)
  · have : j = 0 := by omega
    subst this
    refine ⟨fun _ => (e 4 0 (by omega)).trans (by decide +kernel), fun z => absurd z (by omega), ?_, ?_⟩
    · show -9 ≤ (gi μ 5 0).toInt ∧ (gi μ 5 0).toInt ≤ 9
      rw [e 5 0 (by omega)]; decide +kernel
    · show 1 ≤ (gi μ 6 0).toInt ∧ (gi μ 6 0).toInt ≤ 999
      rw [e 6 0 (by omega)]; decide +kernel
  · show (gi μ 7 j = 0 ∨ gi μ 7 j = 1) ∧ (gi μ 8 j = 0 ∨ gi μ 8 j = 1)
    rw [e 7 j (by omega), e 8 j (by omega)]
    revert j
    decide +kernel
  · show gi μ 15 i = 0 ∨ gi μ 15 i = 1
    rw [e 15 i (by omega)]
    revert i
    decide +kernel
  · have : j = 0 := by omega
    subst this
    show gi μ (4 + f) 0 = gi μ (146 + f) 0
    rw [e (4 + f) 0 (by omega)]
    have hf' : f = 0 ∨ f = 1 ∨ f = 2 ∨ f = 3 ∨ f = 4 := by omega
    rcases hf' with rfl | rfl | rfl | rfl | rfl
    · rw [h1]; decide +kernel
    · rw [e (146 + 1) 0 (by omega)]; decide +kernel
    · rw [show 146 + 2 = 148 from rfl, h2]; decide +kernel
    · rw [show 146 + 3 = 149 from rfl, h3]; decide +kernel
    · rw [e (146 + 4) 0 (by omega)]; decide +kernel
  · rw [e _ _ (by omega), e _ _ (by omega)]; decide +kernel
  · rw [e _ _ (by omega)]; decide +kernel
  · rw [e _ _ (by omega)]; decide +kernel
  · rw [e _ _ (by omega), e _ _ (by omega)]; decide +kernel
  · rw [e _ _ (by omega)]; decide +kernel
  · rw [e _ _ (by omega)]; decide +kernel
  · exact (e _ _ (by omega)).trans (by decide +kernel)
  · exact (e _ _ (by omega)).trans (by decide +kernel)
  · exact (e _ _ (by omega)).trans (by decide +kernel)
  · exact (e _ _ (by omega)).trans (by decide +kernel)
  · exact (e _ _ (by omega)).trans (by decide +kernel)
  · exact (e _ _ (by omega)).trans (by decide +kernel)
  · exact (e _ _ (by omega)).trans (by decide +kernel)
