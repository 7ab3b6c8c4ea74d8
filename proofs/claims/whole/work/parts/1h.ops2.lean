/-! operations that ask -/
theorem s_cw_same {R C B : Int} {K be : Int → Int} {bb : Int → Int64} {h D : Int → Int} {hr : Int} {told s s' : Int → Int} (c : s_cw R C B K be bb h D hr told s) (e : ∀ x, 0 ≤ x → x < 73 → s' x = s x) : s_cw R C B K be bb h D hr told s' :=
  s_cw_w c (s_wt_fn (s_env_nb K c.1).1.2 (s_env_nb K c.1).2.1 c.2.2.2.2 e (fun _ _ _ => rfl) (fun _ _ _ => rfl) rfl)
theorem s_if1 {p : Prop} [Decidable p] : (if p then (1 : Int) else 0) = 0 ↔ ¬ p := by by_cases h : p <;> simp [h]
theorem o_cell (N : Nat) (hN : 1000000 ≤ N) {R C B : Int} {K be : Int → Int} {bb : Int → Int64} {h D : Int → Int} {hr : Int} {told s : Int → Int} (c : s_cw R C B K be bb h D hr told s) (st wt : Int → Int) (ws sc sm : Int) (T : Int → Int) (x1 x2 : Int) : ∃ a o T', m_X5_cell N (R * C) K be h D st wt ws sc sm x1 x2 = some (a, o) ∧ m_X6_cell N told s T x1 x2 = some (a, T') := by
  obtain ⟨hd, hg, ht, hk, hw⟩ := c
  have hn := s_dim_n hd
  have hE := s_env_nb K hd
  obtain ⟨ha, hok, hs, hh⟩ := hw
  have hG := s_gr_of hE hok
  rw [m_X5_cell, m_X6_cell, p_holds, p6_isCell N ht, p_b1, p_b1]
  by_cases hx : 0 ≤ x1 ∧ x1 < R * C
  · obtain ⟨T', e1, l1⟩ := p6_laysStates N (by omega) R C hr K told s h D T ht ha hG
    have e2 : m_X6_cell_l1 N told x1 T' s N 0 0 = some (if T' x1 < 0 then 0 else s_mx T' D (T' x1) (R * C).toNat) := by
      have q := p6_cell_l1 N R C hr x1 K told s h D T' ht ha hx N 0 (by omega) (by omega)
      rw [s_mx, ite_self] at q
      exact q
    rw [if_pos (show 0 ≤ x1 ∧ x1 < R * C ∧ x1 < 36 by omega), if_pos hx, if_neg p_f1, if_pos p_t1, p_isFrom, p_b1, e1, p_b1, e2, p_b1]
    by_cases h0 : x2 = 0
    · rw [if_pos (show 0 ≤ x2 ∧ x2 ≤ 5 by omega), if_pos p_t1, if_neg (show ¬(x2 ≠ 0) by omega), if_pos h0, z_chk_pos (by omega), z_chk_pos (by omega), z_chk_pos (by omega), ha.2.1 x1 hx.1 (by omega)]
      exact ⟨_, _, _, rfl, rfl⟩
    · by_cases h1 : x2 = 1
      · rw [if_pos (show 0 ≤ x2 ∧ x2 ≤ 5 by omega), if_pos p_t1, if_pos h0, if_neg (show ¬(x2 ≠ 1) by omega), if_neg h0, if_pos h1, z_chk_pos (by omega), z_chk_pos (by omega), z_chk_pos (by omega), ht.2.2.2 x1 hx.1 (by omega)]
        exact ⟨_, _, _, rfl, rfl⟩
      · by_cases h2 : x2 = 2
        · rw [if_pos (show 0 ≤ x2 ∧ x2 ≤ 5 by omega), if_pos p_t1, if_pos h0, if_pos h1, if_neg (show ¬(x2 ≠ 2) by omega), if_neg h0, if_neg h1, if_pos h2, z_chk_pos (by omega), z_chk_pos (by omega), ha.1 x1 hx.1 (by omega)]
          exact ⟨_, _, _, rfl, rfl⟩
        · by_cases h5 : 0 ≤ x2 ∧ x2 ≤ 5
          · obtain ⟨L, W, k, e3, l3⟩ := p_map N (by omega) (R * C) (s_nb R C K) D be bb hG hg st wt ws sc sm
            have las := s_lab_as hG l3 l1 x1 hx
            rw [if_pos h5, if_pos p_t1, if_pos h0, if_pos h1, if_pos h2, e3, p_b5, if_neg h0, if_neg h1, if_neg h2]
            by_cases h3 : x2 = 3
            · rw [if_neg (show ¬(x2 ≠ 3) by omega), p_stateOf, if_pos (show 0 ≤ x1 ∧ x1 < R * C ∧ x1 < 36 by omega), p_b1, if_pos h3, z_chk_pos (by omega)]
              rcases las with ⟨q1, q2⟩ | ⟨q1, q2, q3⟩
              · rw [if_neg (show ¬ 0 ≤ T' x1 by omega), q1]
                exact ⟨_, _, _, rfl, rfl⟩
              · rw [if_pos (show 0 ≤ T' x1 by omega), z_chk_pos (by omega), q3]
                exact ⟨_, _, _, rfl, rfl⟩
            · by_cases h4 : x2 = 4
              · rw [if_pos h3, if_neg (show ¬(x2 ≠ 4) by omega), p_sizeAt N (by omega) (R * C) x1 L (by omega) hx, p_b1, if_neg h3, if_pos h4, z_chk_pos (by omega), p6_sizeOf N (by omega) R C _ K told T' ht, p_b1]
                rcases las with ⟨q1, q2⟩ | ⟨q1, q2, q3⟩
                · rw [if_pos q1, if_pos (show T' x1 < 0 by omega)]
                  exact ⟨_, _, _, rfl, rfl⟩
                · rw [if_neg (show ¬ L x1 = -4 by omega), if_neg (show ¬ T' x1 < 0 by omega), q3, s_lab_ct hG l3 l1 _ q1]
                  exact ⟨_, _, _, rfl, rfl⟩
              · rw [if_pos h3, if_pos h4, p_depthAt N (by omega) (R * C) x1 L D (by omega) hx, p_b1, if_neg h3, if_neg h4, if_pos (show x2 = 5 by omega)]
                rcases las with ⟨q1, q2⟩ | ⟨q1, q2, q3⟩
                · rw [if_pos q1, if_pos (show T' x1 < 0 by omega)]
                  exact ⟨_, _, _, rfl, rfl⟩
                · rw [if_neg (show ¬ L x1 = -4 by omega), if_neg (show ¬ T' x1 < 0 by omega), q3, s_lab_mx hG l3 l1 _ q1]
                  exact ⟨_, _, _, rfl, rfl⟩
          · rw [if_neg h5, if_neg p_f0, if_neg h0, if_neg h1, if_neg h2, if_neg (show ¬ x2 = 3 by omega), if_neg (show ¬ x2 = 4 by omega), if_neg (show ¬ x2 = 5 by omega)]
            exact ⟨_, _, _, rfl, rfl⟩
  · rw [if_neg (show ¬(0 ≤ x1 ∧ x1 < R * C ∧ x1 < 36) by omega), if_pos p_t0, if_neg hx, if_neg p_f0]
    exact ⟨_, _, _, rfl, rfl⟩
theorem o_count (N : Nat) (hN : 1000000 ≤ N) {R C B : Int} {K be : Int → Int} {bb : Int → Int64} {h D : Int → Int} {hr : Int} {told s : Int → Int} (c : s_cw R C B K be bb h D hr told s) (rk n uk kk : Int) (st wt : Int → Int) (ws sc sm : Int) (T : Int → Int) (x1 : Int) : ∃ a o T', m_X5_count N rk n R (R * C) be D hr st wt ws sc sm uk kk x1 = some (a, o) ∧ m_X6_count N n told s uk kk rk T x1 = some (a, T') := by
  obtain ⟨hd, hg, ht, hk, hw⟩ := c
  have hn := s_dim_n hd
  have hE := s_env_nb K hd
  obtain ⟨ha, hok, hs, hh⟩ := hw
  have hG := s_gr_of hE hok
  rw [m_X5_count, m_X6_count]
  by_cases h0 : x1 = 0
  · rw [if_pos h0, if_pos h0, p6_cells N ht, p_b1]
    exact ⟨_, _, _, rfl, rfl⟩
  rw [if_neg h0, if_neg h0]
  by_cases h1 : x1 = 1
  · rw [if_pos h1, if_pos h1, z_chk_pos (by omega), ht.2.1]
    exact ⟨_, _, _, rfl, rfl⟩
  rw [if_neg h1, if_neg h1]
  by_cases h2 : x1 = 2
  · rw [if_pos h2, if_pos h2, p_wetCells N (by omega) _ D (by omega), p6_wet N (by omega) R C hr K told s h D ht ha, p_b1, p_b1]
    exact ⟨_, _, _, rfl, rfl⟩
  rw [if_neg h2, if_neg h2]
  by_cases h3 : x1 = 3
  · obtain ⟨L, W, k, e3, l3⟩ := p_map N (by omega) (R * C) (s_nb R C K) D be bb hG hg st wt ws sc sm
    obtain ⟨T', e4, l4⟩ := p6_many N (by omega) R C hr K told s h D T ht ha hG
    rw [if_pos h3, if_pos h3, e3, p_b5, e4, p_b2, s_lab_rt hG l3 l4]
    exact ⟨_, _, _, rfl, rfl⟩
  rw [if_neg h3, if_neg h3]
  by_cases h4 : x1 = 4
  · rw [if_pos h4, if_pos h4, p_allDrops N (by omega) (R * C) _ (by omega) (fun x a b => (hok x a b).2.1), p6_all N (by omega) R C hr K told s h D ht ha hok, p_b1, p_b1]
    exact ⟨_, _, _, rfl, rfl⟩
  rw [if_neg h4, if_neg h4]
  by_cases h5 : x1 = 5
  · rw [if_pos h5, if_pos h5, z_chk_pos (by omega), ha.2.2]
    exact ⟨_, _, _, rfl, rfl⟩
  rw [if_neg h5, if_neg h5]
  by_cases h6 : x1 = 6
  · rw [if_pos h6, if_pos h6]
    exact ⟨_, _, _, rfl, rfl⟩
  rw [if_neg h6, if_neg h6]
  by_cases h7 : x1 = 7
  · rw [if_pos h7, if_pos h7]
    exact ⟨_, _, _, rfl, rfl⟩
  rw [if_neg h7, if_neg h7]
  by_cases h8 : x1 = 8
  · rw [if_pos h8, if_pos h8]
    exact ⟨_, _, _, rfl, rfl⟩
  rw [if_neg h8, if_neg h8]
  by_cases h9 : x1 = 9
  · rw [if_pos h9, if_pos h9]
    exact ⟨_, _, _, rfl, rfl⟩
  rw [if_neg h9, if_neg h9]
  exact ⟨_, _, _, rfl, rfl⟩
theorem s_i2c : ∀ k : Nat, k < 127 → z_i2c (k : Int) = k := by decide +kernel
theorem o_write (N : Nat) (T : Int → Int) (n x1 : Int) (ht : s_tx T n) : ∃ a T' n', m_X5_write N T n x1 = some (a, T', n') ∧ m_X6_write N T n x1 = some (a, T', n') ∧ s_tx T' n' := by
  have nn := ht.1
  rw [m_X5_write, m_X6_write, p_in, p_b1]
  by_cases h1 : x1 < 32
  · rw [if_pos h1, if_neg (show ¬(32 ≤ x1 ∧ x1 ≤ 126) by omega), if_neg p_f0]
    exact ⟨_, _, _, rfl, rfl, ht⟩
  · rw [if_neg h1]
    by_cases h2 : x1 ≤ 126
    · have ec : z_i2c x1 = x1 := by
        have := s_i2c x1.toNat (by omega)
        rw [show ((x1.toNat : Nat) : Int) = x1 by omega] at this
        exact this
      rw [if_pos h2, if_pos (show 32 ≤ x1 ∧ x1 ≤ 126 by omega), if_pos p_t1, ec]
      by_cases h3 : n < 200
      · rw [if_pos h3, if_pos (by omega), m_X3_add, if_neg (by omega), if_neg (by omega), z_chk_pos (by omega), z_chk_pos (by omega), z_chk_pos (by omega), p_b2, z_chk_pos (by omega), z_chk_pos (by omega)]
        refine ⟨_, _, _, rfl, rfl, by omega, fun j a b => ?_⟩
        unfold z_up
        by_cases w : j = n
        · rw [if_pos w]; omega
        · rw [if_neg w]; exact ht.2 j a (by omega)
      · rw [if_neg h3, if_neg (by omega)]
        exact ⟨_, _, _, rfl, rfl, ht⟩
    · rw [if_neg h2, if_neg (show ¬(32 ≤ x1 ∧ x1 ≤ 126) by omega), if_neg p_f0]
      exact ⟨_, _, _, rfl, rfl, ht⟩
theorem o_wipe (N : Nat) (T : Int → Int) (n : Int) (ht : s_tx T n) : m_X5_wipe N n = some (n, 0) ∧ m_X6_wipe N n = some (n, 0) ∧ s_tx T 0 := by
  refine ⟨?_, rfl, by omega, fun j a b => by omega⟩
  rw [m_X5_wipe, m_X3_empty, p_b1]
theorem p_b11 {α0 α1 α2 α3 α4 α5 α6 α7 α8 α9 α10 δ : Type} (w : α0) (o : α1 × α2 × α3 × α4 × α5 × α6 × α7 × α8 × α9 × α10) (f : α0 → α1 → α2 → α3 → α4 → α5 → α6 → α7 → α8 → α9 → α10 → Option δ) : z_b11 (some (w, o)) f = f w o.1 o.2.1 o.2.2.1 o.2.2.2.1 o.2.2.2.2.1 o.2.2.2.2.2.1 o.2.2.2.2.2.2.1 o.2.2.2.2.2.2.2.1 o.2.2.2.2.2.2.2.2.1 o.2.2.2.2.2.2.2.2.2 := rfl
theorem o_fault (N : Nat) (hN : 2000 ≤ N) (T be K0 h0 D0 d0 b0 : Int → Int) (bb : Int → Int64) (n a0 R0 C0 n0 hrs a1 : Int) (ht : s_tx T n) : ∃ r o d' b' a', m_X5_fault N T n a0 R0 C0 n0 K0 be bb h0 D0 hrs = some (r, o) ∧ m_X6_fault N T n d0 b0 a1 = some (r, d', b', a') := by
  obtain ⟨r, o, d', b', a', e1, e2, -⟩ := p_read N hN T be K0 h0 D0 d0 b0 bb n a0 R0 C0 n0 hrs a1 ht
  rw [m_X5_fault, e1, p_b11, m_X6_fault, e2, p_b4]
  exact ⟨_, _, _, _, _, rfl, rfl⟩
