/-! THE START, AND ALL OPERATIONS -/
theorem Rel_init : ∃ τ, F_Md_tellNothing 0 md_0 = some ((), τ) ∧ Rel fx_0 τ := by
  obtain ⟨τ, h1, h2, h3, h4, h5⟩ := s_tellN0 (τ := md_0) (n := 0) (by omega)
  have b1 : τ.2.1 1 = md_0.2.1 1 := h4 1 (by decide)
  have b2 : ∀ o, o < 41 → τ.2.1 2 o = -1 := fun o ho => by rw [h5 o, if_pos (by omega)]
  refine ⟨τ, h1, ⟨1, by omega, by omega, rfl, by rw [h2]; rfl, fun k hk => ?_, fun k o hk ho => ?_, fun k o _ _ _ => rfl⟩, ⟨0, ⟨by omega, rfl, rfl, fun j hj => ?_, fun j hj => by omega, fun j hj => by omega, fun e b hb => by simp [stk] at hb⟩, ⟨by rw [h2]; rfl, by rw [h2]; rfl, fun j hj => by omega, fun e b hb => by simp [stk] at hb⟩, by rw [h2]; rfl, Or.inl (by rw [h2]; rfl)⟩, ⟨by rw [h2]; rfl, by rw [h2]; rfl, by rw [h2]; rfl, by rw [h2]; rfl⟩, ⟨0, by omega, rfl, by rw [h2]; rfl, rfl, fun k hk => by omega, Or.inl rfl⟩, ⟨0, by omega, rfl, by rw [h2]; rfl, Or.inl ⟨by rw [h2]; rfl, rfl⟩, fun k hk => by omega, rfl, fun j hj => by omega, rfl⟩⟩
  · have : k = 0 := by omega
    subst this
    rw [b1]
    exact ⟨rfl, Or.inl rfl⟩
  · have : k = 0 := by omega
    subst this
    refine Or.inl ⟨rfl, ?_⟩
    rw [show 41 * 0 + o = o by omega]
    exact b2 o ho
  · have : j = 0 := by omega
    subst this
    simp [stk]
