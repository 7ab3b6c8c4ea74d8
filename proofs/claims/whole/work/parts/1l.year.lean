/-! the year -/
theorem s_bm64 {x : Int} (h : -9223372036854775808 ≤ x ∧ x ≤ 9223372036854775807) : x.bmod (2 ^ 64) = x := Int.bmod_eq_of_le (by omega) (by omega)
theorem s_bm32 {x : Int} (h : z_n x) : x.bmod (2 ^ 32) = x := Int.bmod_eq_of_le (by omega) (by omega)
theorem s_i2l {x : Int} (h : z_n x) : (z_i2l x).toInt = x := by
  unfold z_i2l
  rw [Int32.toInt_toInt64, z_toInt h]
theorem s_l2i {a : Int64} (h : z_n a.toInt) : z_l2i a = a.toInt := by
  unfold z_l2i
  rw [Int64.toInt_toInt32, s_bm32 h]
theorem s_draw (x y : Int) (hx : 0 ≤ x ∧ x ≤ 9999) (hy : 0 ≤ y ∧ y ≤ 30) : ∃ q : Int, (0 ≤ q ∧ q < 65521) ∧ z_l2i (z_lrem (((((7919 : Int64) * (z_i2l x)) + ((6151 : Int64) * (z_i2l y))) + (1 : Int64)) * ((((7919 : Int64) * (z_i2l x)) + ((6151 : Int64) * (z_i2l y))) + (1 : Int64))) (65521 : Int64)) = q ∧ z_l2i ((z_lrem (((((7919 : Int64) * (z_i2l x)) + ((6151 : Int64) * (z_i2l y))) + (1 : Int64)) * ((((7919 : Int64) * (z_i2l x)) + ((6151 : Int64) * (z_i2l y))) + (1 : Int64))) (65521 : Int64)) / (8 : Int64)) = Int.tdiv q 8 := by
  have c1 : (7919 : Int64).toInt = 7919 := by decide
  have c2 : (6151 : Int64).toInt = 6151 := by decide
  have c3 : (1 : Int64).toInt = 1 := by decide
  have c4 : (65521 : Int64).toInt = 65521 := by decide
  have c5 : (8 : Int64).toInt = 8 := by decide
  have e1 : ((((7919 : Int64) * (z_i2l x)) + ((6151 : Int64) * (z_i2l y))) + (1 : Int64)).toInt = 7919 * x + 6151 * y + 1 := by
    rw [Int64.toInt_add, Int64.toInt_add, Int64.toInt_mul, Int64.toInt_mul, s_i2l (by omega), s_i2l (by omega), c1, c2, c3, s_bm64 (x := 7919 * x) (by omega), s_bm64 (x := 6151 * y) (by omega), s_bm64 (x := 7919 * x + 6151 * y) (by omega), s_bm64 (by omega)]
  generalize ((((7919 : Int64) * (z_i2l x)) + ((6151 : Int64) * (z_i2l y))) + (1 : Int64)) = e at *
  have hX : 0 ≤ e.toInt ∧ e.toInt ≤ 80000000 := by omega
  have hY : 0 ≤ e.toInt * e.toInt ∧ e.toInt * e.toInt ≤ 80000000 * 80000000 := ⟨Int.mul_nonneg hX.1 hX.1, Int.mul_le_mul hX.2 hX.2 hX.1 (by omega)⟩
  have e2 : (e * e).toInt = e.toInt * e.toInt := by rw [Int64.toInt_mul, s_bm64 (by omega)]
  generalize e.toInt * e.toInt = Y at *
  generalize e * e = a at *
  have e3 : (z_lrem a (65521 : Int64)).toInt = Y % 65521 := by
    unfold z_lrem
    rw [Int64.toInt_sub, Int64.toInt_mul, Int64.toInt_div, e2, c4, Int.tdiv_eq_ediv_of_nonneg hY.1, s_bm64 (x := Y / 65521) (by omega), s_bm64 (x := Y / 65521 * 65521) (by omega), s_bm64 (by omega)]
    omega
  generalize z_lrem a (65521 : Int64) = b at *
  refine ⟨Y % 65521, by omega, ?_, ?_⟩
  · rw [s_l2i (by rw [e3]; omega), e3]
  · have e4 : (b / (8 : Int64)).toInt = Int.tdiv (Y % 65521) 8 := by
      rw [Int64.toInt_div, e3, c5]
      exact s_bm64 (by rw [Int.tdiv_eq_ediv_of_nonneg (by omega)]; omega)
    rw [s_l2i (by rw [e4, Int.tdiv_eq_ediv_of_nonneg (by omega)]; omega), e4]
theorem o_year_l (N : Nat) (hN : 1000000 ≤ N) {R C : Int} {K be : Int → Int} {bb : Int → Int64} {h told : Int → Int} (hg : s_gb (R * C) (s_nb R C K) be bb) (ht : s_tk R C K told) (hkk : ∀ i, 0 ≤ i → i < 36 → 0 ≤ K i ∧ K i ≤ 4) (x1 x2 : Int) (h1 : 0 ≤ x1 ∧ x1 ≤ 9999) (h2 : 1 ≤ x2 ∧ x2 ≤ 30) : ∀ (f : Nat) (v : Int) (D s : Int → Int) (hr : Int) (r : Int64) (f' : Nat), 0 ≤ v → v ≤ x2 → (x2 - v).toNat < f → (x2 - v).toNat < f' → 0 ≤ hr → hr + 3 * (x2 - v) ≤ 800000 → s_ag s h D hr → s_ok (R * C) K h D → s_still (R * C) (s_nb R C K) K h D → ∃ D' hr' r' s', m_X5_year_l1 N x2 x1 h (R * C) K be bb f v D hr r = some (D', hr', r') ∧ m_X6_year_l1 N x2 x1 told f' v s = some s' ∧ s_ag s' h D' hr' ∧ s_ok (R * C) K h D' := by
  have hn := s_dim_n ht.1
  have hE := s_env_nb K ht.1
  intro f
  induction f with
  | zero => intro v D s hr r f' _ _ hf; omega
  | succ f ih =>
    intro v D s hr r f' g0 g1 hf hf' i0 i1 ha hok hs
    obtain ⟨f2, rfl⟩ : ∃ f2, f' = f2 + 1 := ⟨f' - 1, by omega⟩
    rw [m_X5_year_l1, m_X6_year_l1]
    by_cases hc : x2 ≤ v
    · rw [if_pos hc, if_pos hc]
      exact ⟨_, _, _, _, rfl, rfl, ha, hok⟩
    · obtain ⟨q, hq, e1, e2⟩ := s_draw x1 v h1 (by omega)
      rw [if_neg hc, if_neg hc, m_X5_drawOf, e2, e1, p_b1]
      have w0 : 0 ≤ Int.tdiv q 8 ∧ Int.tdiv q 8 < 9000 := by rw [Int.tdiv_eq_ediv_of_nonneg hq.1]; omega
      generalize Int.tdiv q 8 = w at *
      have k1 : 0 ≤ Int.tmod w 4 ∧ Int.tmod w 4 ≤ 3 := by rw [Int.tmod_eq_emod_of_nonneg w0.1]; omega
      have k0 : 0 ≤ Int.tdiv w 4 ∧ Int.tdiv w 4 ≤ 9000 := by rw [Int.tdiv_eq_ediv_of_nonneg w0.1]; omega
      have k2 : 0 ≤ Int.tmod (Int.tdiv w 4) 4 ∧ Int.tmod (Int.tdiv w 4) 4 ≤ 3 := by rw [Int.tmod_eq_emod_of_nonneg k0.1]; omega
      generalize Int.tmod w 4 = a at *
      have cl : s_cw R C 800000 K be bb h D hr told s := ⟨ht.1, hg, ht, hkk, ha, hok, hs, i0, by omega⟩
      obtain ⟨s1, e3, a3⟩ := p6_tryRain N hN cl a (by omega)
      obtain ⟨r1, e4⟩ := p_pour N hN (R * C) (s_nb R C K) K h D be bb hE hok hg r a (by omega)
      have ok2 := s_pour_ok (R * C) (s_nb R C K) K h D a (by omega) hE hok
      have st2 : s_still (R * C) (s_nb R C K) K h (s_pour (R * C) (s_nb R C K) K h a D) := s_flow_rest ht.1 (s_prD_ok _ K h D a (by omega) hok)
      obtain ⟨r2, e5⟩ := p_passHours N hN (R * C) (s_nb R C K) K h _ be bb hE ok2 hg r1 hr (Int.tmod (Int.tdiv w 4) 4) (by omega) (by omega)
      obtain ⟨s2, e6, a6⟩ := p6_hours N hN R C hr (Int.tmod (Int.tdiv w 4) 4) K told h _ (m_X6_year_l2 N w told) (fun f v s => by rw [m_X6_year_l2, z_chk_pos (by omega), z_chk_pos (by omega)]) ht ok2 (by omega) (by omega) N 0 s1 (by omega) (by omega) (by rw [show hr + ((0 : Nat) : Int) = hr by omega]; exact a3)
      have e6' : m_X6_year_l2 N w told N 0 s1 = some s2 := e6
      rw [z_chk_pos (by omega), e4, p_b2, z_chk_pos (by omega), z_chk_pos (by omega), e5, p_b3, z_chk_pos (by omega), z_chk_pos (by omega), z_chk_pos (by omega), z_chk_pos (by omega), e3, p_b1, e6', p_b1, z_chk_pos (by omega)]
      exact ih (v + 1) _ s2 _ r2 f2 (by omega) (by omega) (by omega) (by omega) (by omega) (by omega) a6 (s_hs_ok _ _ K h _ hr hE ok2 _) (s_hs_rest ht.1 ok2 st2 hr _)
theorem o_year (N : Nat) (hN : 1000000 ≤ N) {R C B : Int} {K be : Int → Int} {bb : Int → Int64} {h D : Int → Int} {hr : Int} {told s : Int → Int} (hB : B ≤ 700000) (c : s_cw R C B K be bb h D hr told s) (lh lD : Int → Int) (lhr : Int) (lr : Int64) (st wt : Int → Int) (ws sc sm : Int) (T held : Int → Int) (x1 x2 x3 : Int) : ∃ a o s' T' held', m_X5_year N (R * C) K be bb h D hr lh lD lhr lr st wt ws sc sm x1 x2 x3 = some (a, o) ∧ m_X6_year N told s T held x1 x2 x3 = some (a, s', T', held') ∧ s_cw R C B K be bb h D hr told s' := by
  have cc := c
  obtain ⟨hd, hg, ht, hk, hw⟩ := c
  have hn := s_dim_n hd
  have hE := s_env_nb K hd
  rw [m_X5_year, m_X6_year, p_isFrom, p_in, p_b1, p_b1]
  by_cases h1 : 0 ≤ x1 ∧ x1 ≤ 9999
  · rw [if_pos h1, if_neg p_f1, if_neg p_f1, p_isFrom, p_in, p_b1, p_b1]
    by_cases h2 : 1 ≤ x2 ∧ x2 ≤ 30
    · rw [if_pos h2, if_neg p_f1, if_neg p_f1, p_isFrom, p_in, p_b1, p_b1]
      by_cases h3 : 0 ≤ x3 ∧ x3 ≤ 1
      · obtain ⟨ha, hok, hs, hh⟩ := s_later hE.1.2 hE.2.1 hw lh lD
        obtain ⟨D', hr', r', s1, e1, e2, a2, ok2⟩ := o_year_l N hN hg ht hk x1 x2 h1 h2 N 0 _ s hr lr N (by omega) (by omega) (by omega) (by omega) (by omega) (by omega) ha hok hs
        have hG := s_gr_of hE ok2
        obtain ⟨held', e3, l3⟩ := p6_holdsS N (by omega) s held
        obtain ⟨T', e4, l4⟩ := p6_many N (by omega) R C _ K told s1 _ _ T ht a2 hG
        obtain ⟨s', e5, l5⟩ := p6_lets N (by omega) held' s1
        obtain ⟨L, W, k, e6, l6⟩ := p_map N (by omega) (R * C) (s_nb R C K) _ be bb hG hg st wt ws sc sm
        have fin := s_cw_same cc (fun x p q => (l5 x p q).trans (l3 x p q))
        rw [if_pos h3, if_pos p_t1, if_pos p_t1, p_copyNow, p_b3, e1, p_b3, e3, p_b1, e2, p_b1]
        by_cases h0 : x3 = 0
        · rw [if_pos (show x3 ≠ 1 by omega), if_neg (show ¬ x3 ≠ 0 by omega), e6, p_b5, e4, p_b2, p_b2, e5, p_b1, s_lab_rt hG l6 l4]
          exact ⟨_, _, _, _, _, rfl, rfl, fin⟩
        · rw [if_neg (show ¬ x3 ≠ 1 by omega), if_pos h0, p_allDrops N (by omega) (R * C) _ (by omega) (fun x a b => (ok2 x a b).2.1), p_b1, p6_all N (by omega) R C _ K told s1 _ _ ht a2 ok2, p_b1, p_b2, e5, p_b1]
          exact ⟨_, _, _, _, _, rfl, rfl, fin⟩
      · rw [if_neg h3, if_neg p_f0, if_neg p_f0]
        exact ⟨_, _, _, _, _, rfl, rfl, cc⟩
    · rw [if_neg h2, if_pos p_t0, if_pos p_t0]
      exact ⟨_, _, _, _, _, rfl, rfl, cc⟩
  · rw [if_neg h1, if_pos p_t0, if_pos p_t0]
    exact ⟨_, _, _, _, _, rfl, rfl, cc⟩
