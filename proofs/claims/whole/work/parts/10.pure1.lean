/-! phase 2: the models alone -/
theorem p_b1 {α δ : Type} (a : α) (f : α → Option δ) : z_b1 (some a) f = f a := rfl
theorem p_b2 {α β δ : Type} (a : α) (b : β) (f : α → β → Option δ) : z_b2 (some (a, b)) f = f a b := rfl
theorem p_b0 {δ : Type} (f : Option δ) : z_b0 (some ()) f = f := rfl
theorem p_isFrom (N : Nat) (x a b : Int) : m_X5_isFrom N x a b = some (if a ≤ x ∧ x ≤ b then 1 else 0) := by
  grind [m_X5_isFrom]
theorem p_holds (N : Nat) (c x : Int) : m_X0_holds N c x = some (if 0 ≤ x ∧ x < c ∧ x < 36 then 1 else 0) := by
  grind [m_X0_holds]
theorem p_in (N : Nat) (x a b : Int) : m_X6_in N x a b = some (if a ≤ x ∧ x ≤ b then 1 else 0) := by
  grind [m_X6_in]
theorem p_takesRain (N : Nat) (c : Int) (K : Int → Int) (x : Int) : m_X0_takesRain N c K x = some (if 0 ≤ x ∧ x < c ∧ x < 36 ∧ K x ≠ 3 ∧ K x ≠ 2 then 1 else 0) := by
  grind [m_X0_takesRain, p_holds, p_b1, z_chk]
theorem p_isKind (N : Nat) (c : Int) (K : Int → Int) (x k : Int) : m_X0_isKind N c K x k = some (if 0 ≤ x ∧ x < c ∧ x < 36 ∧ K x = k then 1 else 0) := by
  grind [m_X0_isKind, p_holds, p_b1, z_chk]
theorem p_putDrop (N : Nat) (d : Int → Int) (c : Int) (K : Int → Int) (x : Int) (hd : ∀ x, 0 ≤ x → x < 36 → 0 ≤ d x ∧ d x ≤ 60) : m_X4_putDrop N d c K x = some (if 0 ≤ x ∧ x < c ∧ x < 36 ∧ K x ≠ 3 ∧ K x ≠ 2 ∧ d x < 60 then z_up d x (d x + 1) else d) := by
  grind [m_X4_putDrop, p_takesRain, p_b1, z_chk]
theorem p_cells (N : Nat) (t : Int → Int) (h : z_n (t 0 * t 1)) : m_X6_cells N t = some (t 0 * t 1) := by
  grind [m_X6_cells, z_chk]
theorem p_isCell (N : Nat) (t : Int → Int) (x : Int) (h0 : 0 ≤ t 0 * t 1) (h1 : t 0 * t 1 ≤ 36) : m_X6_isCell N t x = some (if 0 ≤ x ∧ x < t 0 * t 1 then 1 else 0) := by
  grind [m_X6_isCell, m_X6_cells, p_in, p_b1, z_chk]
