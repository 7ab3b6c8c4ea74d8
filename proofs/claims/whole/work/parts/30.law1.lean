/-! the law: bounds of the square's sizes -/
theorem z_dimR {R C : Int} (h : s_dim R C) : z_n R := by
  obtain ⟨h, -⟩ := h
  rcases h with rfl | rfl | rfl | rfl | rfl <;> exact ⟨by decide, by decide⟩
theorem z_dimC {R C : Int} (h : s_dim R C) : z_n C := by
  obtain ⟨-, h⟩ := h
  rcases h with rfl | rfl | rfl | rfl | rfl <;> exact ⟨by decide, by decide⟩
theorem z_dimn {R C : Int} (h : s_dim R C) : z_n (R * C) := by
  have := s_dim_n h
  exact ⟨by omega, by omega⟩
