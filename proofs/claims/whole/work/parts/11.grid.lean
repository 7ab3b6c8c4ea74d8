/-! the grid: which cells lie beside which -/
def s_next (C x s : Int) : Int := if s = 0 then x - C else if s = 1 then x + C else if s = 2 then x + 1 else x - 1
def s_nb (R C : Int) (K : Int → Int) (x s : Int) : Int := if 0 ≤ s_next C x s ∧ s_next C x s < R * C ∧ (s < 2 ∨ s_next C x s / C = x / C) ∧ K (s_next C x s) ≠ 3 then s_next C x s else -1
def s_dim (R C : Int) : Prop := (R = 2 ∨ R = 3 ∨ R = 4 ∨ R = 5 ∨ R = 6) ∧ (C = 2 ∨ C = 3 ∨ C = 4 ∨ C = 5 ∨ C = 6)
theorem s_dim_n {R C : Int} (h : s_dim R C) : 4 ≤ R * C ∧ R * C ≤ 36 := by
  obtain ⟨h1, h2⟩ := h
  rcases h1 with rfl | rfl | rfl | rfl | rfl <;> rcases h2 with rfl | rfl | rfl | rfl | rfl <;> decide
theorem s_nb_in {R C : Int} {K : Int → Int} {x s : Int} : s_nb R C K x s = -1 ∨ (0 ≤ s_nb R C K x s ∧ s_nb R C K x s < R * C ∧ K (s_nb R C K x s) ≠ 3) := by
  grind [s_nb]
theorem s_nb_sym {R C : Int} {K : Int → Int} (h : s_dim R C) {x s : Int} (hx : 0 ≤ x ∧ x < R * C) (hK : K x ≠ 3) (hs : 0 ≤ s ∧ s ≤ 3) (hn : 0 ≤ s_nb R C K x s) : ∃ s', (0 ≤ s' ∧ s' ≤ 3) ∧ s_nb R C K (s_nb R C K x s) s' = x := by
  obtain ⟨h1, h2⟩ := h
  have hs : s = 0 ∨ s = 1 ∨ s = 2 ∨ s = 3 := by omega
  rcases hs with rfl | rfl | rfl | rfl
  · refine ⟨1, by omega, ?_⟩
    grind [s_nb, s_next]
  · refine ⟨0, by omega, ?_⟩
    grind [s_nb, s_next]
  · refine ⟨3, by omega, ?_⟩
    rcases h2 with rfl | rfl | rfl | rfl | rfl <;> grind [s_nb, s_next]
  · refine ⟨2, by omega, ?_⟩
    rcases h2 with rfl | rfl | rfl | rfl | rfl <;> grind [s_nb, s_next]
theorem p6_beside (N : Nat) (t K : Int → Int) (R C x s : Int) (h : s_dim R C) (h0 : t 0 = R) (h1 : t 1 = C) (hK : ∀ i, 0 ≤ i → i < 36 → t (3 + i) = K i) (hx : 0 ≤ x ∧ x < R * C) (hs : 0 ≤ s ∧ s ≤ 3) : m_X6_beside N t x s = some (s_nb R C K x s) := by
  have hn := s_dim_n h
  obtain ⟨g1, g2⟩ := h
  have hs : s = 0 ∨ s = 1 ∨ s = 2 ∨ s = 3 := by omega
  have hc : ∀ y, m_X6_isCell N t y = some (if 0 ≤ y ∧ y < R * C then 1 else 0) := fun y => by
    rw [p_isCell N t y (by rw [h0, h1]; omega) (by rw [h0, h1]; omega), h0, h1]
  have hd : ∀ y, 0 ≤ y → Int.tdiv y (t 1) = y / (t 1) := fun y hy => Int.tdiv_eq_ediv_of_nonneg hy
  rcases hs with hs | hs | hs | hs <;> subst hs <;> rcases g2 with g2 | g2 | g2 | g2 | g2 <;> subst g2 <;> clear g1 <;> grind (splits := 40) [m_X6_beside, s_nb, s_next, p_b1, z_chk]
theorem p_walkable (N : Nat) (R C : Int) (K : Int → Int) (h : s_dim R C) (row col : Int) (hr : -1 ≤ row ∧ row ≤ 6) : m_X0_walkable N R C (R * C) K row col = some (if 0 ≤ row ∧ row < R ∧ 0 ≤ col ∧ col < C ∧ K (row * C + col) ≠ 3 then row * C + col else -4) := by
  have hn := s_dim_n h
  obtain ⟨g1, g2⟩ := h
  have hR : R ≤ 6 := by omega
  clear g1
  rcases g2 with g2 | g2 | g2 | g2 | g2 <;> subst g2 <;> grind (splits := 40) [m_X0_walkable, p_holds, p_b1, z_chk]
