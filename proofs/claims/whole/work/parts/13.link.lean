/-! the class's square: beside and besideBits, as link() lays them -/
def s_w (R C : Int) (K : Int → Int) (row col : Int) : Int := if 0 ≤ row ∧ row < R ∧ 0 ≤ col ∧ col < C ∧ K (row * C + col) ≠ 3 then row * C + col else -4
def s_be (v : Int) : Int := if v < 0 then -4 else v
theorem s_wnb {R C : Int} {K : Int → Int} (h : s_dim R C) {row col : Int} (hr : 0 ≤ row ∧ row < R) (hc : 0 ≤ col ∧ col < C) : s_w R C K (row - 1) col = s_be (s_nb R C K (row * C + col) 0) ∧ s_w R C K (row + 1) col = s_be (s_nb R C K (row * C + col) 1) ∧ s_w R C K row (col + 1) = s_be (s_nb R C K (row * C + col) 2) ∧ s_w R C K row (col - 1) = s_be (s_nb R C K (row * C + col) 3) := by
  obtain ⟨g1, g2⟩ := h
  have hR : 2 ≤ R ∧ R ≤ 6 := by omega
  clear g1
  refine ⟨?_, ?_, ?_, ?_⟩ <;> rcases g2 with g2 | g2 | g2 | g2 | g2 <;> subst g2 <;> grind (splits := 40) [s_w, s_be, s_nb, s_next]
/-- the cells ahead of x0 are linked -/
def s_lk (n : Int) (nb : Int → Int → Int) (x0 : Int) (be : Int → Int) (bb : Int → Int64) : Prop :=
  (∀ x s, 0 ≤ x → x < x0 → 0 ≤ s → s ≤ 3 → be (x * 4 + s) = s_be (nb x s)) ∧ (∀ x y, 0 ≤ x → x < x0 → 0 ≤ y → y < 64 → (s_bit (bb x) y ↔ ∃ s, (0 ≤ s ∧ s ≤ 3) ∧ nb x s = y)) ∧ (∀ x y, x0 ≤ x → x < 36 → 0 ≤ y → y < 64 → ¬ s_bit (bb x) y)
theorem p_linkSide (N : Nat) (R C : Int) (K be : Int → Int) (bb : Int → Int64) (h : s_dim R C) (x s row col : Int) (hx : 0 ≤ x ∧ x < R * C) (hs : 0 ≤ s ∧ s ≤ 3) (hr : -1 ≤ row ∧ row ≤ 6) : m_X0_linkSide N R C (R * C) K be bb x s row col = some (z_up be (x * 4 + s) (s_w R C K row col), if s_w R C K row col = -4 then bb else z_up bb x (bb x ||| z_lshl (1 : Int64) (s_w R C K row col))) := by
  have hn := s_dim_n h
  have hw := p_walkable N R C K h row col hr
  rw [show (if 0 ≤ row ∧ row < R ∧ 0 ≤ col ∧ col < C ∧ K (row * C + col) ≠ 3 then row * C + col else -4) = s_w R C K row col from rfl] at hw
  generalize s_w R C K row col = w at *
  clear h
  generalize R * C = n at *
  unfold m_X0_linkSide
  rw [hw]
  grind (splits := 40) [p_holds, p_b1, z_chk, z_up]
theorem s_lk_step {n : Int} {nb : Int → Int → Int} {x0 : Int} {be : Int → Int} {bb : Int → Int64} (h : s_lk n nb x0 be bb) (hx : 0 ≤ x0 ∧ x0 < 36) (hnb : ∀ s, nb x0 s < 36) {b1 b2 b3 b4 : Int → Int64} (e1 : b1 = if s_be (nb x0 0) = -4 then bb else z_up bb x0 (bb x0 ||| z_lshl (1 : Int64) (s_be (nb x0 0)))) (e2 : b2 = if s_be (nb x0 1) = -4 then b1 else z_up b1 x0 (b1 x0 ||| z_lshl (1 : Int64) (s_be (nb x0 1)))) (e3 : b3 = if s_be (nb x0 2) = -4 then b2 else z_up b2 x0 (b2 x0 ||| z_lshl (1 : Int64) (s_be (nb x0 2)))) (e4 : b4 = if s_be (nb x0 3) = -4 then b3 else z_up b3 x0 (b3 x0 ||| z_lshl (1 : Int64) (s_be (nb x0 3)))) :
    s_lk n nb (x0 + 1) (z_up (z_up (z_up (z_up be (x0 * 4 + 0) (s_be (nb x0 0))) (x0 * 4 + 1) (s_be (nb x0 1))) (x0 * 4 + 2) (s_be (nb x0 2))) (x0 * 4 + 3) (s_be (nb x0 3))) b4 := by
  obtain ⟨h1, h2, h3⟩ := h
  have one : ∀ (b b' : Int → Int64) (s : Int), (b' = if s_be (nb x0 s) = -4 then b else z_up b x0 (b x0 ||| z_lshl (1 : Int64) (s_be (nb x0 s)))) → (∀ x, x ≠ x0 → b' x = b x) ∧ ∀ y, 0 ≤ y → y < 64 → (s_bit (b' x0) y ↔ s_bit (b x0) y ∨ nb x0 s = y) := by
    intro b b' s e
    subst e
    by_cases hn : nb x0 s < 0
    · have hb : s_be (nb x0 s) = -4 := if_pos hn
      rw [if_pos hb]
      exact ⟨fun _ _ => rfl, fun y hy _ => ⟨Or.inl, fun q => q.elim id (fun z => by omega)⟩⟩
    · have hb : s_be (nb x0 s) = nb x0 s := if_neg hn
      rw [hb, if_neg (by omega)]
      refine ⟨fun x hx => by simp [z_up, hx], fun y hy hy2 => ?_⟩
      have hh := hnb s
      simp only [z_up, if_true]
      rw [s_bit_or, s_bit_one (by omega) hy]
      exact ⟨fun q => q.imp id Eq.symm, fun q => q.imp id Eq.symm⟩
  obtain ⟨a1, c1⟩ := one _ _ 0 e1
  obtain ⟨a2, c2⟩ := one _ _ 1 e2
  obtain ⟨a3, c3⟩ := one _ _ 2 e3
  obtain ⟨a4, c4⟩ := one _ _ 3 e4
  refine ⟨fun x s g1 g2 g3 g4 => ?_, fun x y g1 g2 g3 g4 => ?_, fun x y g1 g2 g3 g4 => ?_⟩
  · by_cases hx0 : x = x0
    · subst hx0
      have : s = 0 ∨ s = 1 ∨ s = 2 ∨ s = 3 := by omega
      rcases this with rfl | rfl | rfl | rfl
      · grind [z_up]
      · grind [z_up]
      · grind [z_up]
      · grind [z_up]
    · simp only [z_up]
      rw [if_neg (by omega), if_neg (by omega), if_neg (by omega), if_neg (by omega)]
      exact h1 x s g1 (by omega) g3 g4
  · by_cases hx0 : x = x0
    · subst hx0
      rw [c4 y g3 g4, c3 y g3 g4, c2 y g3 g4, c1 y g3 g4]
      have hno := h3 x y (by omega) (by omega) g3 g4
      constructor
      · rintro ((((q | q) | q) | q) | q)
        · exact absurd q hno
        · exact ⟨0, by omega, q⟩
        · exact ⟨1, by omega, q⟩
        · exact ⟨2, by omega, q⟩
        · exact ⟨3, by omega, q⟩
      · rintro ⟨s, hs, q⟩
        have : s = 0 ∨ s = 1 ∨ s = 2 ∨ s = 3 := by omega
        rcases this with rfl | rfl | rfl | rfl
        · exact Or.inl (Or.inl (Or.inl (Or.inr q)))
        · exact Or.inl (Or.inl (Or.inr q))
        · exact Or.inl (Or.inr q)
        · exact Or.inr q
    · rw [a4 x hx0, a3 x hx0, a2 x hx0, a1 x hx0]
      exact h2 x y g1 (by omega) g3 g4
  · have hx0 : x ≠ x0 := by omega
    rw [a4 x hx0, a3 x hx0, a2 x hx0, a1 x hx0]
    exact h3 x y (by omega) g2 g3 g4
theorem p_link_l2 (N : Nat) (R C : Int) (K : Int → Int) (h : s_dim R C) (row : Int) (hr : 0 ≤ row ∧ row < R) : ∀ (f : Nat) (col : Int) (be : Int → Int) (bb : Int → Int64), 0 ≤ col → col ≤ C → (C - col).toNat < f → s_lk (R * C) (s_nb R C K) (row * C + col) be bb → ∃ be' bb', m_X0_link_l2 N C row R (R * C) K f col be bb = some (be', bb') ∧ s_lk (R * C) (s_nb R C K) (row * C + C) be' bb' := by
  have hn := s_dim_n h
  have hR : R ≤ 6 ∧ C ≤ 6 := by
    obtain ⟨g1, g2⟩ := h
    omega
  intro f
  induction f with
  | zero => intro col be bb _ _ hf; omega
  | succ f ih =>
    intro col be bb h0 hC hf hI
    rw [m_X0_link_l2]
    by_cases hc : C ≤ col
    · rw [if_pos hc]
      have : col = C := by omega
      subst this
      exact ⟨be, bb, rfl, hI⟩
    · rw [if_neg hc, if_neg (by omega)]
      have b1 : 0 ≤ row * C := Int.mul_nonneg hr.1 (by omega)
      have b2 : row * C + C ≤ R * C := by
        have : (row + 1) * C ≤ R * C := Int.mul_le_mul_of_nonneg_right (by omega) (by omega)
        rw [Int.add_mul, Int.one_mul] at this
        exact this
      have hx : 0 ≤ row * C + col ∧ row * C + col < R * C := by omega
      obtain ⟨w0, w1, w2, w3⟩ := s_wnb (K := K) h hr ⟨h0, by omega⟩
      have L0 := fun be bb => p_linkSide N R C K be bb h (row * C + col) 0 (row - 1) col hx (by omega) (by omega)
      have L1 := fun be bb => p_linkSide N R C K be bb h (row * C + col) 1 (row + 1) col hx (by omega) (by omega)
      have L2 := fun be bb => p_linkSide N R C K be bb h (row * C + col) 2 row (col + 1) hx (by omega) (by omega)
      have L3 := fun be bb => p_linkSide N R C K be bb h (row * C + col) 3 row (col - 1) hx (by omega) (by omega)
      rw [w0] at L0
      rw [w1] at L1
      rw [w2] at L2
      rw [w3] at L3
      have hnb : ∀ s, s_nb R C K (row * C + col) s < 36 := fun s => by
        rcases s_nb_in (R := R) (C := C) (K := K) (x := row * C + col) (s := s) with q | q <;> omega
      have st := s_lk_step hI (by omega) hnb rfl rfl rfl rfl
      rw [z_chk_pos (by omega), z_chk_pos (by omega), z_chk_pos (by omega), L0, p_b2, z_chk_pos (by omega), L1, p_b2, z_chk_pos (by omega), L2, p_b2, z_chk_pos (by omega), L3, p_b2, z_chk_pos (by omega)]
      exact ih (col + 1) _ _ (by omega) (by omega) (by omega) (by rw [show row * C + (col + 1) = row * C + col + 1 by omega]; exact st)
theorem p_link_l1 (N : Nat) (R C : Int) (K : Int → Int) (h : s_dim R C) (hN : 10 ≤ N) : ∀ (f : Nat) (row : Int) (be : Int → Int) (bb : Int → Int64), 0 ≤ row → row ≤ R → (R - row).toNat < f → s_lk (R * C) (s_nb R C K) (row * C) be bb → ∃ be' bb', m_X0_link_l1 N R C (R * C) K f row be bb = some (be', bb') ∧ s_lk (R * C) (s_nb R C K) (R * C) be' bb' := by
  have hR : (2 ≤ R ∧ R ≤ 6) ∧ 2 ≤ C ∧ C ≤ 6 := by
    obtain ⟨g1, g2⟩ := h
    omega
  intro f
  induction f with
  | zero => intro row be bb _ _ hf; omega
  | succ f ih =>
    intro row be bb h0 hC hf hI
    rw [m_X0_link_l1]
    by_cases hc : R ≤ row
    · rw [if_pos hc]
      have : row = R := by omega
      subst this
      exact ⟨be, bb, rfl, hI⟩
    · rw [if_neg hc, if_neg (by omega)]
      obtain ⟨be', bb', e, hI'⟩ := p_link_l2 N R C K h row ⟨h0, by omega⟩ N 0 be bb (by omega) (by omega) (by omega) (by rw [Int.add_zero]; exact hI)
      rw [e, p_b2, z_chk_pos (by omega)]
      exact ih (row + 1) be' bb' (by omega) (by omega) (by omega) (by rw [Int.add_mul, Int.one_mul]; exact hI')
theorem p_fillJ_l1 (N n : Nat) (v : Int64) (hn : n ≤ 1000) : ∀ (f : Nat) (i : Int) (a : Int → Int64), 0 ≤ i → i ≤ n → ((n : Int) - i).toNat < f → ∃ a', m_J7_fill_d0a16_l1 N n n v f i a = some a' ∧ ∀ j, a' j = if i ≤ j ∧ j < n then v else a j := by
  intro f
  induction f with
  | zero => intro i a _ _ hf; omega
  | succ f ih =>
    intro i a h0 h1 hf
    rw [m_J7_fill_d0a16_l1]
    by_cases hc : (n : Int) ≤ i
    · rw [if_pos hc]
      exact ⟨a, rfl, fun j => by rw [if_neg (by omega)]⟩
    · rw [if_neg hc, z_chk_pos (by omega), z_chk_pos (by omega)]
      obtain ⟨a', e, he⟩ := ih (i + 1) (z_up a i v) (by omega) (by omega) (by omega)
      exact ⟨a', e, fun j => by rw [he j]; grind [z_up]⟩
theorem p_fillI_l1 (N n : Nat) (v : Int) (hn : n ≤ 1000) : ∀ (f : Nat) (i : Int) (a : Int → Int), 0 ≤ i → i ≤ n → ((n : Int) - i).toNat < f → ∃ a', m_J7_fill_53178_l1 N n n v f i a = some a' ∧ ∀ j, a' j = if i ≤ j ∧ j < n then v else a j := by
  intro f
  induction f with
  | zero => intro i a _ _ hf; omega
  | succ f ih =>
    intro i a h0 h1 hf
    rw [m_J7_fill_53178_l1]
    by_cases hc : (n : Int) ≤ i
    · rw [if_pos hc]
      exact ⟨a, rfl, fun j => by rw [if_neg (by omega)]⟩
    · rw [if_neg hc, z_chk_pos (by omega), z_chk_pos (by omega)]
      obtain ⟨a', e, he⟩ := ih (i + 1) (z_up a i v) (by omega) (by omega) (by omega)
      exact ⟨a', e, fun j => by rw [he j]; grind [z_up]⟩
theorem p_fillJ (N n : Nat) (hn : n ≤ 1000) (hN : 1001 ≤ N) (a : Int → Int64) (v : Int64) : ∃ a', m_J7_fill_d0a16 N n a v = some a' ∧ ∀ j, a' j = if 0 ≤ j ∧ j < n then v else a j := by
  obtain ⟨a', e, he⟩ := p_fillJ_l1 N n v hn N 0 a (by omega) (by omega) (by omega)
  exact ⟨a', by rw [m_J7_fill_d0a16, e, p_b1], he⟩
theorem p_fillI (N n : Nat) (hn : n ≤ 1000) (hN : 1001 ≤ N) (a : Int → Int) (v : Int) : ∃ a', m_J7_fill_53178 N n a v = some a' ∧ ∀ j, a' j = if 0 ≤ j ∧ j < n then v else a j := by
  obtain ⟨a', e, he⟩ := p_fillI_l1 N n v hn N 0 a (by omega) (by omega) (by omega)
  exact ⟨a', by rw [m_J7_fill_53178, e, p_b1], he⟩
theorem p_link (N : Nat) (R C : Int) (K : Int → Int) (h : s_dim R C) (hN : 1001 ≤ N) (be : Int → Int) (bb : Int → Int64) : ∃ be' bb', m_X0_link N R C (R * C) K be bb = some (be', bb') ∧ s_lk (R * C) (s_nb R C K) (R * C) be' bb' := by
  obtain ⟨b0, e0, h0⟩ := p_fillJ N 36 (by omega) hN bb 0
  have hd := h
  obtain ⟨g1, g2⟩ := hd
  obtain ⟨be', bb', e, hI⟩ := p_link_l1 N R C K h (by omega) N 0 be b0 (by omega) (by omega) (by omega) (by
    refine ⟨fun x s a b => by omega, fun x y a b => by omega, fun x y a b c d => ?_⟩
    rw [h0 x, if_pos (by omega)]
    exact s_bit_0 y)
  exact ⟨be', bb', by rw [m_X0_link, e0, p_b1, e, p_b2], hI⟩
