/-! the start: the first text -/
def s_T0 : Int → Int := s_upto s_tf (fun _ => 0) 70
theorem s_T0_tx : s_tx s_T0 70 := by
  refine ⟨by omega, fun j a b => ?_⟩
  have e := (s_txt_c j.toNat (by omega)).2.1
  unfold s_T0 s_upto s_tf
  rw [if_pos ⟨a, b⟩]
  exact e
theorem s_item_det {T : Int → Int} {n a x y e x' y' e' : Int} (h : s_item T n a x y e) (h' : s_item T n a x' y' e') : x = x' ∧ y = y' ∧ e = e' := by
  obtain ⟨-, h1, -, -, h2, -, h3⟩ := h
  obtain ⟨-, g1, -, -, g2, -, g3⟩ := h'
  exact ⟨h1.trans g1.symm, h2.trans g2.symm, h3.trans g3.symm⟩
def s_its : List (Int × Int × Int × Int × Int) := [(0, 115, 4, 5, 5), (5, 104, 6, 2, 10), (10, 104, 7, 3, 15), (15, 104, 8, 6, 20), (20, 104, 11, 1, 26), (26, 104, 12, 2, 32), (32, 104, 3, 4, 37), (37, 104, 17, 3, 43), (43, 107, 4, 1, 48), (48, 107, 19, 2, 54), (54, 107, 9, 3, 59), (59, 107, 11, 4, 65), (65, 119, 7, 3, 70)]
theorem s_its_ok : ∀ t ∈ s_its, s_T0 t.1 = t.2.1 ∧ s_item s_T0 70 t.1 t.2.2.1 t.2.2.2.1 t.2.2.2.2 := by
  unfold s_item
  decide +kernel
