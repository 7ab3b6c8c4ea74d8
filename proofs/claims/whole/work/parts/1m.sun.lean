/-! sky and sun -/
theorem p_gcd (N : Nat) : ∀ (k : Nat) (a b v : Int) (f f' : Nat), 0 ≤ a → 0 ≤ b → b < 2 ^ k → z_n a → z_n b → 0 ≤ v → v + 2 * k ≤ 62 → 2 * k + 1 < f → 2 * k + 1 < f' → ∃ g, m_X5_commonDivisor_l1 N f a b v = some g ∧ m_X6_common_l1 N f' a b = some g ∧ 0 ≤ g ∧ z_n g ∧ (0 < a ∨ 0 < b → 0 < g) := by
  intro k
  induction k with
  | zero =>
    intro a b v f f' ha hb hk na nb hv hvk hf hf'
    obtain ⟨f1, rfl⟩ : ∃ f1, f = f1 + 1 := ⟨f - 1, by omega⟩
    obtain ⟨f2, rfl⟩ : ∃ f2, f' = f2 + 1 := ⟨f' - 1, by omega⟩
    have hk' : b < 1 := by simpa using hk
    rw [m_X5_commonDivisor_l1, m_X6_common_l1, if_neg (by omega), if_pos (by omega), if_pos (by omega)]
    exact ⟨a, rfl, rfl, ha, na, fun _ => by omega⟩
  | succ k ih =>
    intro a b v f f' ha hb hk na nb hv hvk hf hf'
    have hp : (2 : Int) ^ (k + 1) = 2 * 2 ^ k := by rw [Int.pow_succ]; omega
    have ze : ∀ (a v : Int) (f f' : Nat), 0 ≤ a → z_n a → 0 ≤ v → v ≤ 62 → 0 < f → 0 < f' → m_X5_commonDivisor_l1 N f a 0 v = some a ∧ m_X6_common_l1 N f' a 0 = some a := fun a v f f' _ _ _ _ hf hf' => by
      obtain ⟨f1, rfl⟩ : ∃ f1, f = f1 + 1 := ⟨f - 1, by omega⟩
      obtain ⟨f2, rfl⟩ : ∃ f2, f' = f2 + 1 := ⟨f' - 1, by omega⟩
      rw [m_X5_commonDivisor_l1, m_X6_common_l1, if_neg (by omega), if_pos rfl, if_pos (by omega)]
      exact ⟨rfl, rfl⟩
    have st : ∀ (a b v : Int) (f f' : Nat), 0 ≤ a → 0 < b → z_n b → 0 ≤ v → v ≤ 62 → m_X5_commonDivisor_l1 N (f + 1) a b v = m_X5_commonDivisor_l1 N f b (a % b) (v + 1) ∧ m_X6_common_l1 N (f' + 1) a b = m_X6_common_l1 N f' b (a % b) := fun a b v f f' ha hb nb hv hv2 => by
      have m0 := Int.emod_nonneg a (show b ≠ 0 by omega)
      have m1 := Int.emod_lt_of_pos a hb
      rw [m_X5_commonDivisor_l1, m_X6_common_l1, Int.tmod_eq_emod_of_nonneg ha, if_neg (by omega), if_neg (by omega), if_neg (by omega), z_chk_pos (by omega), z_chk_pos (by omega), z_chk_pos (by omega), z_chk_pos (by omega), z_chk_pos (by omega)]
      exact ⟨rfl, rfl⟩
    by_cases hb0 : b = 0
    · subst hb0
      obtain ⟨e1, e2⟩ := ze a v f f' ha na hv (by omega) (by omega) (by omega)
      exact ⟨a, e1, e2, ha, na, fun _ => by omega⟩
    · obtain ⟨f1, rfl⟩ : ∃ f1, f = f1 + 1 + 1 := ⟨f - 2, by omega⟩
      obtain ⟨f2, rfl⟩ : ∃ f2, f' = f2 + 1 + 1 := ⟨f' - 2, by omega⟩
      obtain ⟨e1, e2⟩ := st a b v (f1 + 1) (f2 + 1) ha (by omega) nb hv (by omega)
      have m0 := Int.emod_nonneg a (show b ≠ 0 by omega)
      have m1 := Int.emod_lt_of_pos a (show 0 < b by omega)
      rw [e1, e2]
      by_cases hc0 : a % b = 0
      · rw [hc0]
        obtain ⟨e3, e4⟩ := ze b (v + 1) (f1 + 1) (f2 + 1) hb nb (by omega) (by omega) (by omega) (by omega)
        exact ⟨b, e3, e4, hb, nb, fun _ => by omega⟩
      · generalize a % b = c at *
        obtain ⟨e3, e4⟩ := st b c (v + 1) f1 f2 hb (by omega) (by omega) (by omega) (by omega)
        have n0 := Int.emod_nonneg b (show c ≠ 0 by omega)
        have n1 := Int.emod_lt_of_pos b (show 0 < c by omega)
        have n2 : b % c ≤ b - c := by
          have q := Int.mul_ediv_add_emod b c
          have q1 : 1 ≤ b / c := Int.le_ediv_of_mul_le (by omega) (by omega)
          have q2 : c * 1 ≤ c * (b / c) := Int.mul_le_mul_of_nonneg_left q1 (by omega)
          omega
        rw [e3, e4]
        obtain ⟨g, h1, h2, h3, h4, h5⟩ := ih c (b % c) (v + 1 + 1) f1 f2 (by omega) n0 (by omega) (by omega) (by omega) (by omega) (by omega) (by omega) (by omega)
        exact ⟨g, h1, h2, h3, h4, fun _ => h5 (Or.inl (by omega))⟩
theorem s_tdiv_b {x g : Int} (hx : 0 ≤ x) (hg : 0 < g) : 0 ≤ Int.tdiv x g ∧ Int.tdiv x g ≤ x := by
  rw [Int.tdiv_eq_ediv_of_nonneg hx]
  exact ⟨Int.ediv_nonneg hx (by omega), Int.ediv_le_self g hx⟩
theorem p_lowest (N : Nat) (hN : 1000 ≤ N) (up down w : Int) (hu : 0 ≤ up ∧ z_n up) (hd : 0 ≤ down ∧ down ≤ 1000000) (hp : 0 < up ∨ 0 < down) : ∃ g, m_X6_common N up down = some g ∧ 0 < g ∧ m_X5_lowestTerms N up down w = some (Int.tdiv (if w ≠ 0 then down else up) g) ∧ z_n (Int.tdiv up g) ∧ z_n (Int.tdiv down g) := by
  obtain ⟨g, e1, e2, g0, g1, g2⟩ := p_gcd N 20 up down 0 N N hu.1 hd.1 (by omega) hu.2 (by omega) (by omega) (by omega) (by omega) (by omega)
  have gp := g2 hp
  have b1 := s_tdiv_b hu.1 gp
  have b2 := s_tdiv_b hd.1 gp
  refine ⟨g, by rw [m_X6_common, e2, p_b1], gp, ?_, by omega, by omega⟩
  have e3 : (if w ≠ 0 then some down else some up) = some (if w ≠ 0 then down else up) := by split <;> rfl
  have b3 : z_n (Int.tdiv (if w ≠ 0 then down else up) g) := by split <;> omega
  rw [m_X5_lowestTerms, m_X5_commonDivisor, e1, p_b1, p_b1, e3, p_b1]
  by_cases h1 : g ≤ 1
  · have : g = 1 := by omega
    rw [if_pos h1, this, Int.tdiv_one]
  · rw [if_neg h1, z_chk_pos (by omega), z_chk_pos b3]
theorem s_ct_pos (L : Int → Int) (c z : Int) (hz : 0 ≤ z) (hL : L z = c) : ∀ k : Nat, z < k → 1 ≤ s_ct L c k
  | 0, h => by omega
  | k + 1, h => by
    have b := s_ct_b L c k
    rw [s_ct]
    by_cases q : z = k
    · rw [if_pos (by rw [← q]; exact hL)]; omega
    · have := s_ct_pos L c z hz hL k (by omega)
      split <;> omega
theorem o_sky (N : Nat) (hN : 1000000 ≤ N) {R C B : Int} {K be : Int → Int} {bb : Int → Int64} {h D : Int → Int} {hr : Int} {told s : Int → Int} (c : s_cw R C B K be bb h D hr told s) (st wt : Int → Int) (ws sc sm : Int) (T : Int → Int) (x1 x2 : Int) : ∃ a o T', m_X5_sky N (R * C) be D st wt ws sc sm x1 x2 = some (a, o) ∧ m_X6_sky N told s T x1 x2 = some (a, T') := by
  obtain ⟨hd, hg, ht, hk, hw⟩ := c
  have hn := s_dim_n hd
  have hE := s_env_nb K hd
  obtain ⟨ha, hok, hs, hh⟩ := hw
  have hG := s_gr_of hE hok
  rw [m_X5_sky, m_X6_sky, p_holds, p6_isCell N ht, p_b1, p_b1]
  by_cases hx : 0 ≤ x1 ∧ x1 < R * C
  · rw [if_pos (show 0 ≤ x1 ∧ x1 < R * C ∧ x1 < 36 by omega), if_pos hx, if_neg p_f1, if_neg p_f1, p_isFrom, p_in, p_b1, p_b1]
    by_cases h2 : 0 ≤ x2 ∧ x2 ≤ 1
    · obtain ⟨L, W, k, e1, l1⟩ := p_map N (by omega) (R * C) (s_nb R C K) D be bb hG hg st wt ws sc sm
      obtain ⟨T', e2, l2⟩ := p6_laysStates N (by omega) R C hr K told s h D T ht ha hG
      have las := s_lab_as hG l1 l2 x1 hx
      rw [if_pos h2, if_pos p_t1, if_pos p_t1, e1, p_b5, p_stateOf, if_pos (show 0 ≤ x1 ∧ x1 < R * C ∧ x1 < 36 by omega), p_b1, e2, p_b1, z_chk_pos (by omega)]
      rcases las with ⟨q1, q2⟩ | ⟨q1, q2, q3⟩
      · rw [if_neg (show ¬ L x1 ≠ -4 by omega), if_neg (show ¬ 0 ≤ T' x1 by omega)]
        exact ⟨_, _, _, rfl, rfl⟩
      · have b1 := s_ct_b L (L x1) (R * C).toNat
        have b2 := s_ct_pos L (L x1) x1 hx.1 rfl (R * C).toNat (by omega)
        have b3 := s_wet_b D (R * C).toNat
        obtain ⟨g, e3, g0, e4, n1, n2⟩ := p_lowest N (by omega) (s_ct L (L x1) (R * C).toNat) (s_wet D (R * C).toNat) x2 (by omega) (by omega) (by omega)
        rw [if_pos (show L x1 ≠ -4 by omega), p_sizeAt N (by omega) (R * C) x1 L (by omega) hx, if_neg (show ¬ L x1 = -4 by omega), p_b1, p_wetCells N (by omega) _ D (by omega), p_b1, e4, p_b1]
        rw [if_pos (show 0 ≤ T' x1 by omega), z_chk_pos (by omega), p6_sizeOf N (by omega) R C _ K told T' ht, if_neg (show ¬ T' x1 < 0 by omega), p_b1, p6_wet N (by omega) R C hr K told s h D ht ha, p_b1, q3, ← s_lab_ct hG l1 l2 _ q1, e3, p_b1]
        by_cases h0 : x2 ≠ 0
        · rw [if_pos h0, if_pos h0, z_chk_pos (by omega), z_chk_pos n2]
          exact ⟨_, _, _, rfl, rfl⟩
        · rw [if_neg h0, if_neg h0, z_chk_pos (by omega), z_chk_pos n1]
          exact ⟨_, _, _, rfl, rfl⟩
    · rw [if_neg h2, if_neg p_f0, if_neg p_f0]
      exact ⟨_, _, _, rfl, rfl⟩
  · rw [if_neg (show ¬(0 ≤ x1 ∧ x1 < R * C ∧ x1 < 36) by omega), if_neg hx, if_pos p_t0, if_pos p_t0]
    exact ⟨_, _, _, rfl, rfl⟩
/-! the sun over many hours -/
def s_pc (m : Int) : Nat → Nat
  | 0 => 0
  | k + 1 => s_pc m k + (if (z_and (z_shr m k) 1) ≠ 1 then 0 else 1)
def s_pd (m p : Int) : Nat → Int
  | 0 => 1
  | k + 1 => s_pd m p k * (if (z_and (z_shr m k) 1) ≠ 1 then 10 - p else p)
theorem s_pc_le (m : Int) : ∀ k : Nat, s_pc m k ≤ k
  | 0 => Nat.le_refl 0
  | k + 1 => by
    have := s_pc_le m k
    rw [s_pc]; split <;> omega
theorem s_pd_eq (m p : Int) : ∀ k : Nat, s_pd m p k = p ^ (s_pc m k) * (10 - p) ^ (k - s_pc m k)
  | 0 => by simp [s_pd, s_pc]
  | k + 1 => by
    have le := s_pc_le m k
    rw [s_pd, s_pc, s_pd_eq m p k]
    by_cases h : z_and (z_shr m k) 1 ≠ 1
    · rw [if_pos h, if_pos h, Nat.add_zero, show k + 1 - s_pc m k = (k - s_pc m k) + 1 by omega, Int.pow_succ, Int.mul_assoc]
    · rw [if_neg h, if_neg h, show k + 1 - (s_pc m k + 1) = k - s_pc m k by omega, Int.pow_succ, Int.mul_right_comm]
theorem s_pd_b (m p : Int) (hp : 0 ≤ p ∧ p ≤ 10) : ∀ k : Nat, 0 ≤ s_pd m p k ∧ s_pd m p k ≤ 10 ^ k
  | 0 => by rw [s_pd]; decide
  | k + 1 => by
    obtain ⟨a, b⟩ := s_pd_b m p hp k
    have hq : 0 ≤ (if (z_and (z_shr m k) 1) ≠ 1 then 10 - p else p) ∧ (if (z_and (z_shr m k) 1) ≠ 1 then 10 - p else p) ≤ 10 := by split <;> omega
    rw [s_pd, Int.pow_succ]
    exact ⟨Int.mul_nonneg a hq.1, Int.mul_le_mul b hq.2 hq.1 (by omega)⟩
theorem s_ten : ∀ k : Nat, k < 7 → (1 : Int) ≤ 10 ^ k ∧ (10 : Int) ^ k ≤ 1000000 := by decide
theorem s_pow_b (p : Int) (hp : 0 ≤ p ∧ p ≤ 10) : ∀ k : Nat, 0 ≤ p ^ k ∧ p ^ k ≤ 10 ^ k
  | 0 => by simp
  | k + 1 => by
    obtain ⟨a, b⟩ := s_pow_b p hp k
    rw [Int.pow_succ, Int.pow_succ]
    exact ⟨Int.mul_nonneg a hp.1, Int.mul_le_mul b hp.2 hp.1 (by omega)⟩
theorem p_power_l1 (N : Nat) (p : Int) (hp : 0 ≤ p ∧ p ≤ 10) (n : Nat) (hn : n ≤ 6) : ∀ (f : Nat) (k : Nat), k ≤ n → n - k < f → m_X5_power_l1 N n p f (p ^ k) k = some (p ^ n) := by
  intro f
  induction f with
  | zero => intro k _ hf; omega
  | succ f ih =>
    intro k g1 hf
    rw [m_X5_power_l1]
    by_cases hc : n ≤ k
    · have : k = n := by omega
      rw [if_pos (by omega), this]
    · have b := s_pow_b p hp (k + 1)
      have t := s_ten (k + 1) (by omega)
      rw [Int.pow_succ] at b
      have go := ih (k + 1) (by omega) (by omega)
      rw [Int.pow_succ] at go
      rw [if_neg (by omega), z_chk_pos (by omega), z_chk_pos (by omega)]
      exact go
theorem p_power (N : Nat) (hN : 100 ≤ N) (p : Int) (hp : 0 ≤ p ∧ p ≤ 10) (n : Nat) (hn : n ≤ 6) : m_X5_power N p n = some (p ^ n) := by
  have e := p_power_l1 N p hp n hn N 0 (by omega) (by omega)
  rw [Int.pow_zero] at e
  rw [m_X5_power, show m_X5_power_l1 N n p N 1 0 = _ from e, p_b1]
theorem p6_power (N : Nat) (n : Nat) (hn : n ≤ 6) : ∀ (f : Nat) (k : Nat), k ≤ n → n - k < f → m_X6_sun_l1 N n f (10 ^ k) k = some (10 ^ n) := by
  intro f
  induction f with
  | zero => intro k _ hf; omega
  | succ f ih =>
    intro k g1 hf
    rw [m_X6_sun_l1]
    by_cases hc : n ≤ k
    · have : k = n := by omega
      rw [if_pos (by omega), this]
    · have t := s_ten (k + 1) (by omega)
      rw [Int.pow_succ] at t
      have go := ih (k + 1) (by omega) (by omega)
      rw [Int.pow_succ] at go
      rw [if_neg (by omega), z_chk_pos (by omega), z_chk_pos (by omega)]
      exact go
theorem s_count0 : ∀ n : Nat, n < 7 → ∀ m : Nat, m < 2 ^ n → m_J6_bitCount_0f7a4 0 (m : Int) = some ((s_pc m n : Nat) : Int) := by decide +kernel
theorem s_count (N n : Nat) (hn : n < 7) (m : Nat) (hm : m < 2 ^ n) : m_J6_bitCount_0f7a4 N (m : Int) = some ((s_pc m n : Nat) : Int) := s_count0 n hn m hm
theorem s_shl1 : ∀ n : Nat, n < 7 → z_shl 1 (n : Int) = ((2 ^ n : Nat) : Int) ∧ 2 ^ n ≤ 64 := by decide +kernel
theorem s_set : ∀ k : Nat, k < 7 → ∀ x : Nat, x < 2 ^ k → (z_and (z_shr x k) 1 ≠ 1) ∧ ((z_or x (z_shl 1 k)).toNat < 2 ^ (k + 1) ∧ 0 ≤ z_or x (z_shl 1 k)) ∧ z_and (z_shr (z_or x (z_shl 1 k)) k) 1 = 1 ∧ ∀ j : Nat, j < k → z_and (z_shr (z_or x (z_shl 1 k)) j) 1 = z_and (z_shr x j) 1 := by decide +kernel
