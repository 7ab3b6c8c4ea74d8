/-! FLOW: rounds, the potential, the class's flow -/
def s_env (n : Int) (nb : Int → Int → Int) (K : Int → Int) : Prop := (0 ≤ n ∧ n ≤ 36) ∧ s_nbok n nb K ∧ ∀ x s, 0 ≤ x → x < n → K x ≠ 3 → 0 ≤ s → s ≤ 3 → 0 ≤ nb x s → ∃ s', (0 ≤ s' ∧ s' ≤ 3) ∧ nb (nb x s) s' = x
def s_val (nb : Int → Int → Int) (K h D : Int → Int) (x s : Int) : Prop := 0 < D x ∧ 0 ≤ nb x s ∧ s_lv h D (nb x s) + (if K (nb x s) = 2 then 1 else 2) ≤ s_lv h D x
theorem s_bc_or (nb : Int → Int → Int) (K h D : Int → Int) (x s : Int) (p : Int × Int) : (s_val nb K h D x s ∧ s_bc nb K h D x s p = (nb x s, s_lv h D (nb x s))) ∨ s_bc nb K h D x s p = p := by
  by_cases hc : 0 < D x ∧ 0 ≤ nb x s ∧ s_lv h D (nb x s) + (if K (nb x s) = 2 then 1 else 2) ≤ s_lv h D x ∧ (p.1 < 0 ∨ s_lv h D (nb x s) ≤ p.2)
  · exact Or.inl ⟨⟨hc.1, hc.2.1, hc.2.2.1⟩, if_pos hc⟩
  · exact Or.inr (if_neg hc)
theorem s_tgt_spec (nb : Int → Int → Int) (K h D : Int → Int) (x : Int) : s_tgt nb K h D x < 0 ∨ ∃ s, (0 ≤ s ∧ s ≤ 3) ∧ s_tgt nb K h D x = nb x s ∧ s_val nb K h D x s := by
  have st : ∀ s p, 0 ≤ s → s ≤ 3 → (p.1 < 0 ∨ ∃ s, (0 ≤ s ∧ s ≤ 3) ∧ p.1 = nb x s ∧ s_val nb K h D x s) → ((s_bc nb K h D x s p).1 < 0 ∨ ∃ s', (0 ≤ s' ∧ s' ≤ 3) ∧ (s_bc nb K h D x s p).1 = nb x s' ∧ s_val nb K h D x s') := by
    intro s p h0 h1 hp
    rcases s_bc_or nb K h D x s p with ⟨hv, e⟩ | e
    · rw [e]
      exact Or.inr ⟨s, ⟨h0, h1⟩, rfl, hv⟩
    · rw [e]
      exact hp
  exact st 0 _ (by omega) (by omega) (st 1 _ (by omega) (by omega) (st 2 _ (by omega) (by omega) (st 3 _ (by omega) (by omega) (Or.inl (by decide)))))
theorem s_tgt_has (nb : Int → Int → Int) (K h D : Int → Int) (x s : Int) (hs : 0 ≤ s ∧ s ≤ 3) (hv : s_val nb K h D x s) : 0 ≤ s_tgt nb K h D x := by
  have keep : ∀ s p, 0 ≤ p.1 → 0 ≤ (s_bc nb K h D x s p).1 := by
    intro s p hp
    rcases s_bc_or nb K h D x s p with ⟨hv, e⟩ | e
    · rw [e]; exact hv.2.1
    · rw [e]; exact hp
  have hit : ∀ p, 0 ≤ (s_bc nb K h D x s p).1 := by
    intro p
    by_cases hp : p.1 < 0
    · unfold s_bc
      rw [if_pos ⟨hv.1, hv.2.1, hv.2.2, Or.inl hp⟩]
      exact hv.2.1
    · exact keep s p (by omega)
  have : s = 0 ∨ s = 1 ∨ s = 2 ∨ s = 3 := by omega
  unfold s_tgt
  rcases this with rfl | rfl | rfl | rfl
  · exact hit _
  · exact keep 0 _ (hit _)
  · exact keep 0 _ (keep 1 _ (hit _))
  · exact keep 0 _ (keep 1 _ (keep 2 _ (hit _)))
theorem s_drop_at (K D : Int → Int) (x t y : Int) (hxt : x ≠ t) : s_drop K D x t y = if y = x then D x - 1 else if y = t ∧ K t ≠ 2 ∧ D t < 60 then D t + 1 else D y := by
  have e : z_up D x (D x - 1) t = D t := by
    unfold z_up
    rw [if_neg (fun z => hxt z.symm)]
  unfold s_drop
  rw [e]
  by_cases hc : K t ≠ 2 ∧ D t < 60
  · rw [if_pos hc]
    unfold z_up
    by_cases h1 : y = t
    · subst h1
      rw [if_pos rfl, if_neg (fun z => hxt z.symm), if_pos ⟨rfl, hc⟩]
    · rw [if_neg h1]
      by_cases h2 : y = x
      · rw [if_pos h2, if_pos h2]
      · rw [if_neg h2, if_neg h2, if_neg (fun z => h1 z.1)]
  · rw [if_neg hc]
    unfold z_up
    by_cases h2 : y = x
    · rw [if_pos h2, if_pos h2]
    · rw [if_neg h2, if_neg h2, if_neg (fun z => hc z.2)]
theorem s_send (n : Int) (nb : Int → Int → Int) (K h D : Int → Int) (hE : s_env n nb K) (hok : s_ok n K h D) (x : Int) (hx : 0 ≤ x ∧ x < n) (ht : 0 ≤ s_tgt nb K h D x) : 0 < D x ∧ s_tgt nb K h D x < n ∧ K (s_tgt nb K h D x) ≠ 3 ∧ x ≠ s_tgt nb K h D x ∧ s_lv h D (s_tgt nb K h D x) + (if K (s_tgt nb K h D x) = 2 then 1 else 2) ≤ s_lv h D x ∧ ∃ s, (0 ≤ s ∧ s ≤ 3) ∧ s_tgt nb K h D x = nb x s := by
  rcases s_tgt_spec nb K h D x with q | ⟨s, hs, e, hv⟩
  · omega
  · rw [e] at ht ⊢
    rcases hE.2.1 x s with q | q
    · omega
    · refine ⟨hv.1, q.2.1, q.2.2, ?_, hv.2.2, s, hs, rfl⟩
      intro z
      have := hv.2.2
      rw [← z] at this
      split at this <;> omega
theorem s_step_ok (n : Int) (nb : Int → Int → Int) (K h D : Int → Int) (hE : s_env n nb K) (hok : s_ok n K h D) (x : Int) (hx : 0 ≤ x ∧ x < n) : s_ok n K h (s_step nb K h D x) := by
  unfold s_step
  split
  · exact hok
  · rename_i ht
    obtain ⟨h1, h2, h3, h4, h5, -⟩ := s_send n nb K h D hE hok x hx (by omega)
    generalize s_tgt nb K h D x = t at *
    intro y hy hy2
    have a := hok y hy hy2
    have b := hok x hx.1 (by have := hE.1; omega)
    rw [s_drop_at K D x t y h4]
    refine ⟨a.1, ?_, ?_⟩
    · grind
    · grind
def s_phi (h D : Int → Int) : Nat → Int
  | 0 => 0
  | k + 1 => s_phi h D k + s_lv h D k * s_lv h D k
theorem s_phi_same (h D D' : Int → Int) : ∀ k : Nat, (∀ y : Int, 0 ≤ y → y < k → D' y = D y) → s_phi h D' k = s_phi h D k
  | 0, _ => rfl
  | k + 1, hd => by
    rw [s_phi, s_phi, s_phi_same h D D' k (fun y h0 h1 => hd y h0 (by omega))]
    have : D' k = D k := hd k (by omega) (by omega)
    simp only [s_lv, this]
theorem s_sq (a : Int) : (a - 1) * (a - 1) = a * a - 2 * a + 1 := by grind
theorem s_sq2 (a : Int) : (a + 1) * (a + 1) = a * a + 2 * a + 1 := by grind
/-- what one cell's change does to the potential -/
theorem s_phi_one (h D D' : Int → Int) (x : Int) (hx : 0 ≤ x) (hd : ∀ y, y ≠ x → D' y = D y) : ∀ k : Nat, x < k → s_phi h D' k = s_phi h D k - s_lv h D x * s_lv h D x + s_lv h D' x * s_lv h D' x
  | 0, hk => by omega
  | k + 1, hk => by
    rw [s_phi, s_phi]
    by_cases hxk : x = k
    · rw [s_phi_same h D D' k (fun y h0 h1 => hd y (by omega)), ← hxk]
      omega
    · rw [s_phi_one h D D' x hx hd k (by omega)]
      have : D' k = D k := hd k (by omega)
      have e : s_lv h D' k = s_lv h D k := by simp only [s_lv, this]
      rw [e]
      omega
theorem s_phi_step (n : Int) (nb : Int → Int → Int) (K h D : Int → Int) (hE : s_env n nb K) (hok : s_ok n K h D) (x : Int) (hx : 0 ≤ x ∧ x < n) (ht : 0 ≤ s_tgt nb K h D x) : s_phi h (s_step nb K h D x) n.toNat + 1 ≤ s_phi h D n.toNat := by
  obtain ⟨h1, h2, h3, h4, h5, -⟩ := s_send n nb K h D hE hok x hx ht
  unfold s_step
  rw [if_neg (by omega)]
  generalize s_tgt nb K h D x = t at *
  have hn := hE.1
  have b := hok x hx.1 (by omega)
  have a := hok t ht (by omega)
  have e1 := s_phi_one h D (z_up D x (D x - 1)) x hx.1 (fun y hy => by simp [z_up, hy]) n.toNat (by omega)
  have l1 : s_lv h (z_up D x (D x - 1)) x = s_lv h D x - 1 := by simp [s_lv, z_up]; omega
  have l2 : s_lv h (z_up D x (D x - 1)) t = s_lv h D t := by
    have : ¬ t = x := fun z => h4 z.symm
    simp [s_lv, z_up, this]
  rw [l1, s_sq] at e1
  have lx : 1 ≤ s_lv h D x := by unfold s_lv; omega
  unfold s_drop
  split
  · rename_i hc
    have e2 := s_phi_one h (z_up D x (D x - 1)) (z_up (z_up D x (D x - 1)) t (z_up D x (D x - 1) t + 1)) t ht (fun y hy => by simp [z_up, hy]) n.toNat (by omega)
    have l3 : s_lv h (z_up (z_up D x (D x - 1)) t (z_up D x (D x - 1) t + 1)) t = s_lv h D t + 1 := by
      rw [← l2]
      simp [s_lv, z_up]; omega
    rw [l3, l2, s_sq2, e1] at e2
    rw [if_neg hc.1] at h5
    omega
  · omega
theorem s_sqnn (a : Int) : 0 ≤ a * a := by
  rcases Int.le_total 0 a with h | h
  · exact Int.mul_nonneg h h
  · rw [← Int.neg_mul_neg]
    exact Int.mul_nonneg (by omega) (by omega)
theorem s_phi_nn (h D : Int → Int) : ∀ k : Nat, 0 ≤ s_phi h D k
  | 0 => Int.le_refl _
  | k + 1 => by
    rw [s_phi]
    have := s_phi_nn h D k
    have h2 : 0 ≤ s_lv h D k * s_lv h D k := s_sqnn _
    omega
theorem s_phi_le (n : Int) (K h D : Int → Int) (hok : s_ok n K h D) : ∀ k : Nat, k ≤ 36 → s_phi h D k ≤ 6400 * k
  | 0, _ => Int.le_refl _
  | k + 1, hk => by
    rw [s_phi]
    have := s_phi_le n K h D hok k (by omega)
    have q := hok k (by omega) (by omega)
    have h1 : 0 ≤ s_lv h D k ∧ s_lv h D k ≤ 80 := by unfold s_lv; omega
    have h2 : s_lv h D k * s_lv h D k ≤ 80 * 80 := Int.mul_le_mul h1.2 h1.2 h1.1 (by omega)
    omega
/-- no cell sends -/
def s_still (n : Int) (nb : Int → Int → Int) (K h D : Int → Int) : Prop := ∀ y, 0 ≤ y → y < n → s_tgt nb K h D y < 0
theorem s_rd_still (n : Int) (nb : Int → Int → Int) (K h D : Int → Int) (hs : s_still n nb K h D) : ∀ k : Nat, (k : Int) ≤ n → s_rd nb K h k D = D
  | 0, _ => rfl
  | k + 1, hk => by
    rw [s_rd, s_rd_still n nb K h D hs k (by omega)]
    unfold s_step
    rw [if_pos (hs k (by omega) (by omega))]
theorem s_rd_ok (n : Int) (nb : Int → Int → Int) (K h D : Int → Int) (hE : s_env n nb K) (hok : s_ok n K h D) : ∀ k : Nat, (k : Int) ≤ n → s_ok n K h (s_rd nb K h k D)
  | 0, _ => hok
  | k + 1, hk => s_step_ok n nb K h _ hE (s_rd_ok n nb K h D hE hok k (by omega)) k (by omega)
def s_it (n : Int) (nb : Int → Int → Int) (K h : Int → Int) : Nat → (Int → Int) → (Int → Int)
  | 0, D => D
  | j + 1, D => s_rd nb K h n.toNat (s_it n nb K h j D)
def s_flow (n : Int) (nb : Int → Int → Int) (K h D : Int → Int) : Int → Int := s_it n nb K h 300000 D
theorem s_it_ok (n : Int) (nb : Int → Int → Int) (K h D : Int → Int) (hE : s_env n nb K) (hok : s_ok n K h D) : ∀ j : Nat, s_ok n K h (s_it n nb K h j D)
  | 0 => hok
  | j + 1 => s_rd_ok n nb K h _ hE (s_it_ok n nb K h D hE hok j) n.toNat (by have := hE.1; omega)
theorem s_it_stay (n : Int) (nb : Int → Int → Int) (K h D : Int → Int) (hn : 0 ≤ n) (j : Nat) (hs : s_still n nb K h (s_it n nb K h j D)) : ∀ k : Nat, s_it n nb K h (j + k) D = s_it n nb K h j D
  | 0 => rfl
  | k + 1 => by
    rw [show j + (k + 1) = (j + k) + 1 from rfl, s_it, s_it_stay n nb K h D hn j hs k]
    exact s_rd_still n nb K h _ hs n.toNat (by omega)
theorem s_flow_of (n : Int) (nb : Int → Int → Int) (K h D : Int → Int) (hn : 0 ≤ n) (j : Nat) (hj : j ≤ 300000) (hs : s_still n nb K h (s_it n nb K h j D)) : s_it n nb K h j D = s_flow n nb K h D := by
  have := s_it_stay n nb K h D hn j hs (300000 - j)
  rw [show j + (300000 - j) = 300000 by omega] at this
  exact this.symm
theorem s_flow_still (n : Int) (nb : Int → Int → Int) (K h D : Int → Int) (hn : 0 ≤ n) (hs : s_still n nb K h D) : s_flow n nb K h D = D := (s_flow_of n nb K h D hn 0 (by omega) hs).symm
theorem s_flow_ok (n : Int) (nb : Int → Int → Int) (K h D : Int → Int) (hE : s_env n nb K) (hok : s_ok n K h D) : s_ok n K h (s_flow n nb K h D) := s_it_ok n nb K h D hE hok _
/-- the class's wetBits -/
theorem p_wetBits_l1 (N : Nat) (n : Int) (D : Int → Int) (hn : 0 ≤ n ∧ n ≤ 36) : ∀ (f : Nat) (x : Int) (b : Int64), 0 ≤ x → x ≤ n → (n - x).toNat < f → (∀ y, 0 ≤ y → y < 64 → (s_bit b y ↔ y < x ∧ 0 < D y)) → ∃ b', m_X4_wetBits_l1 N n D f b x = some b' ∧ ∀ y, 0 ≤ y → y < 64 → (s_bit b' y ↔ y < n ∧ 0 < D y) := by
  intro f
  induction f with
  | zero => intro x b _ _ hf; omega
  | succ f ih =>
    intro x b h0 h1 hf hb
    rw [m_X4_wetBits_l1]
    by_cases hc : n ≤ x
    · rw [if_pos hc]
      have : x = n := by omega
      subst this
      exact ⟨b, rfl, hb⟩
    · rw [if_neg hc, if_neg (by omega), z_chk_pos (by omega)]
      by_cases hd : D x ≤ 0
      · rw [if_pos hd, z_chk_pos (by omega)]
        refine ih (x + 1) b (by omega) (by omega) (by omega) (fun y g0 g1 => ?_)
        rw [hb y g0 g1]
        constructor
        · intro q; omega
        · intro q
          refine ⟨?_, q.2⟩
          have : y ≠ x := fun z => by rw [z] at q; omega
          omega
      · rw [if_neg hd, z_chk_pos (by omega)]
        refine ih (x + 1) _ (by omega) (by omega) (by omega) (fun y g0 g1 => ?_)
        rw [s_bit_or, hb y g0 g1, s_bit_one (by omega) g0]
        constructor
        · rintro (q | rfl) <;> omega
        · intro q
          by_cases z : y = x
          · exact Or.inr z
          · exact Or.inl ⟨by omega, q.2⟩
theorem p_wetBits (N : Nat) (hN : 100 ≤ N) (n : Int) (D : Int → Int) (hn : 0 ≤ n ∧ n ≤ 36) : ∃ b', m_X4_wetBits N D n = some b' ∧ ∀ y, 0 ≤ y → y < 64 → (s_bit b' y ↔ y < n ∧ 0 < D y) := by
  obtain ⟨b', e, hb⟩ := p_wetBits_l1 N n D hn N 0 0 (by omega) (by omega) (by omega) (fun y g0 g1 => ⟨fun q => absurd q (s_bit_0 y), fun q => by omega⟩)
  exact ⟨b', by rw [m_X4_wetBits, e, p_b1], hb⟩
