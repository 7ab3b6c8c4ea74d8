/-! later hours, rains -/
theorem s_later {n : Int} {nb : Int → Int → Int} {K : Int → Int} {B : Int} {s h D : Int → Int} {hr : Int} (hn : n ≤ 36) (hb : s_nbok n nb K) (w : s_wt n nb K B s h D hr) (lh lD : Int → Int) : s_wt n nb K B s (z_cpy h lh 0 0 36) (z_cpy D lD 0 0 36) hr :=
  s_wt_fn hn hb w (fun _ _ _ => rfl) (fun x a b => s_cpy h lh 36 x a b) (fun x a b => s_cpy D lD 36 x a b) rfl
theorem o_behind (N : Nat) (hN : 1000000 ≤ N) {R C B : Int} {K be : Int → Int} {bb : Int → Int64} {h D : Int → Int} {hr : Int} {told s : Int → Int} (hB : B ≤ 700000) (c : s_cw R C B K be bb h D hr told s) (lh lD : Int → Int) (lhr : Int) (lr : Int64) (st wt : Int → Int) (ws sc sm : Int) (T held : Int → Int) (x1 x2 x3 : Int) : ∃ a o s' T' held', m_X5_behind N (R * C) K be bb h D hr lh lD lhr lr st wt ws sc sm x1 x2 x3 = some (a, o) ∧ m_X6_behind N told s T held x1 x2 x3 = some (a, s', T', held') ∧ s_cw R C B K be bb h D hr told s' := by
  have cc := c
  obtain ⟨hd, hg, ht, hk, hw⟩ := c
  have hn := s_dim_n hd
  have hE := s_env_nb K hd
  rw [m_X5_behind, m_X6_behind, p_isFrom, p_in, p_b1, p_b1]
  by_cases h1 : 0 ≤ x1 ∧ x1 ≤ 40
  · rw [if_pos h1, if_neg p_f1, if_neg p_f1, p_holds, p6_isCell N ht, p_b1, p_b1]
    by_cases h2 : 0 ≤ x2 ∧ x2 < R * C
    · rw [if_pos (show 0 ≤ x2 ∧ x2 < R * C ∧ x2 < 36 by omega), if_pos h2, if_neg p_f1, if_neg p_f1, p_isFrom, p_in, p_b1, p_b1]
      by_cases h3 : 0 ≤ x3 ∧ x3 ≤ 1
      · obtain ⟨ha, hok, hs, hh⟩ := s_later hE.1.2 hE.2.1 hw lh lD
        obtain ⟨r', e1⟩ := p_passHours N hN (R * C) (s_nb R C K) K _ _ be bb hE hok hg lr hr x1 (by omega) (by omega)
        obtain ⟨s1, e2, a2⟩ := p6_hours N hN R C hr x1 K told _ _ (m_X6_behind_l1 N x1 told) (fun f v s => by rw [m_X6_behind_l1]) ht hok (by omega) (by omega) N 0 s (by omega) (by omega) (by rw [show hr + ((0 : Nat) : Int) = hr by omega]; exact ha)
        have e2' : m_X6_behind_l1 N x1 told N 0 s = some s1 := e2
        have ok2 := s_hs_ok (R * C) (s_nb R C K) K _ _ hr hE hok x1.toNat
        have hG := s_gr_of hE ok2
        obtain ⟨held', e3, l3⟩ := p6_holdsS N (by omega) s held
        obtain ⟨T', e4, l4⟩ := p6_laysStates N (by omega) R C _ K told s1 _ _ T ht a2 hG
        obtain ⟨s', e5, l5⟩ := p6_lets N (by omega) held' s1
        obtain ⟨L, W, k, e6, l6⟩ := p_map N (by omega) (R * C) (s_nb R C K) _ be bb hG hg st wt ws sc sm
        have las := s_lab_as hG l6 l4 x2 h2
        have fin := s_cw_same cc (fun x p q => (l5 x p q).trans (l3 x p q))
        rw [if_pos h3, if_pos p_t1, if_pos p_t1, p_copyNow, p_b3, e1, p_b3, e3, p_b1, e2', p_b1, e4, p_b1]
        by_cases h0 : x3 = 0
        · rw [if_neg (show ¬ x3 ≠ 0 by omega), if_neg (show ¬ x3 ≠ 0 by omega), z_chk_pos (by omega), z_chk_pos (by omega), p_b1, e5, p_b1, a2.1 x2 h2.1 (by omega)]
          exact ⟨_, _, _, _, _, rfl, rfl, fin⟩
        · rw [if_pos h0, if_pos h0, e6, p_b5, p_stateOf, if_pos (show 0 ≤ x2 ∧ x2 < R * C ∧ x2 < 36 by omega), p_b1, z_chk_pos (by omega)]
          rcases las with ⟨q1, q2⟩ | ⟨q1, q2, q3⟩
          · rw [if_neg (show ¬ 0 ≤ T' x2 by omega), p_b1, e5, p_b1, q1]
            exact ⟨_, _, _, _, _, rfl, rfl, fin⟩
          · rw [if_pos (show 0 ≤ T' x2 by omega), z_chk_pos (by omega), p_b1, e5, p_b1, q3]
            exact ⟨_, _, _, _, _, rfl, rfl, fin⟩
      · rw [if_neg h3, if_neg p_f0, if_neg p_f0]
        exact ⟨_, _, _, _, _, rfl, rfl, cc⟩
    · rw [if_neg (show ¬(0 ≤ x2 ∧ x2 < R * C ∧ x2 < 36) by omega), if_neg h2, if_pos p_t0, if_pos p_t0]
      exact ⟨_, _, _, _, _, rfl, rfl, cc⟩
  · rw [if_neg h1, if_pos p_t0, if_pos p_t0]
    exact ⟨_, _, _, _, _, rfl, rfl, cc⟩
theorem p_pass1 (N : Nat) (hN : 1000000 ≤ N) (n : Int) (nb : Int → Int → Int) (K h D be : Int → Int) (bb : Int → Int64) (hE : s_env n nb K) (hok : s_ok n K h D) (hg : s_gb n nb be bb) (r : Int64) (hr : Int) (hh : 0 ≤ hr ∧ hr ≤ 900000) : ∃ r', m_X4_passHour N h D hr r n K be bb = some (s_hour n nb K h hr D, hr + 1, r') :=
  p_passHour N hN n nb K h D be bb hE hok hg r hr (by omega)
theorem o_dry_l (N : Nat) (hN : 1000000 ≤ N) {R C : Int} {K be : Int → Int} {bb : Int → Int64} {h : Int → Int} {told : Int → Int} (hg : s_gb (R * C) (s_nb R C K) be bb) (ht : s_tk R C K told) (x1 : Int) : ∀ (f : Nat) (lo v : Int) (D s : Int → Int) (hr : Int) (r : Int64) (f' : Nat), 0 ≤ v → v ≤ 61 → (61 - v).toNat < f → (61 - v).toNat + 1 < f' → 0 ≤ hr → hr + (61 - v) ≤ 800000 → s_ag s h D hr → s_ok (R * C) K h D → ∃ a o lo' fd s', m_X5_dry_l1 N h (R * C) K be bb x1 f lo v D hr r = some (a, o) ∧ m_X6_dry_l1 N told f' lo (-4) v s = some (lo', fd, s') ∧ a = if x1 = 0 then fd else if fd ≠ -4 then lo' else fd := by
  have hn := s_dim_n ht.1
  have hE := s_env_nb K ht.1
  intro f
  induction f with
  | zero => intro lo v D s hr r f' _ _ hf; omega
  | succ f ih =>
    intro lo v D s hr r f' g0 g1 hf hf' i0 i1 ha hok
    obtain ⟨f2, rfl⟩ : ∃ f2, f' = f2 + 1 := ⟨f' - 1, by omega⟩
    rw [m_X5_dry_l1, m_X6_dry_l1]
    by_cases hc : 60 < v
    · rw [if_pos hc, if_pos (show 61 ≤ v by omega)]
      refine ⟨_, _, _, _, _, rfl, rfl, ?_⟩
      rw [if_neg (show ¬ (-4 : Int) ≠ -4 by omega), ite_self]
    · obtain ⟨w, e1, l1⟩ := p_firstWet N (by omega) (R * C) D (by omega)
      obtain ⟨w2, e2, l2⟩ := p6_lowest N (by omega) R C hr K told s h D ht ha
      have ew := s_low_one l1 l2
      subst ew
      obtain ⟨s1, e3, a3⟩ := p6_shines N hN R C hr K told s h D ht ha hok (by omega)
      rw [if_neg hc, if_neg (show ¬ 61 ≤ v by omega), if_neg (show ¬ (-4 : Int) ≠ -4 by omega), e1, p_b1, e2, p_b1]
      by_cases h4 : w ≠ -4
      · obtain ⟨r', e4⟩ := p_pass1 N hN (R * C) (s_nb R C K) K h D be bb hE hok hg r hr (by omega)
        rw [if_pos h4, if_pos h4, if_pos h4, p_b1, p_b1, e3, p_b1, z_chk_pos (by omega), e4, p_b3, z_chk_pos (by omega)]
        exact ih w (v + 1) _ s1 (hr + 1) r' f2 (by omega) (by omega) (by omega) (by omega) (by omega) (by omega) a3 (s_hour_ok _ _ K h D hr hE hok)
      · rw [if_neg h4, if_neg h4, if_neg h4, p_b1, p_b1, e3, p_b1, z_chk_pos (by omega)]
        obtain ⟨f3, rfl⟩ : ∃ f3, f2 = f3 + 1 := ⟨f2 - 1, by omega⟩
        have e5 : m_X6_dry_l1 N told (f3 + 1) lo v (v + 1) s1 = some (lo, v, s1) := by
          rw [m_X6_dry_l1]
          by_cases h6 : 61 ≤ v + 1
          · rw [if_pos h6]
          · rw [if_neg h6, if_pos (by omega)]
        rw [e5]
        by_cases h0 : x1 = 0
        · rw [if_neg (show ¬ x1 ≠ 0 by omega)]
          exact ⟨_, _, _, _, _, rfl, rfl, by rw [if_pos h0]⟩
        · rw [if_pos h0]
          exact ⟨_, _, _, _, _, rfl, rfl, by rw [if_neg h0, if_pos (by omega)]⟩
theorem o_dry (N : Nat) (hN : 1000000 ≤ N) {R C B : Int} {K be : Int → Int} {bb : Int → Int64} {h D : Int → Int} {hr : Int} {told s : Int → Int} (hB : B ≤ 700000) (c : s_cw R C B K be bb h D hr told s) (lh lD : Int → Int) (lhr : Int) (lr : Int64) (held : Int → Int) (x1 : Int) : ∃ a o s' held', m_X5_dry N (R * C) K be bb h D hr lh lD lhr lr x1 = some (a, o) ∧ m_X6_dry N told s held x1 = some (a, s', held') ∧ s_cw R C B K be bb h D hr told s' := by
  have cc := c
  obtain ⟨hd, hg, ht, hk, hw⟩ := c
  have hn := s_dim_n hd
  have hE := s_env_nb K hd
  rw [m_X5_dry, m_X6_dry, p_isFrom, p_in, p_b1, p_b1]
  by_cases h1 : 0 ≤ x1 ∧ x1 ≤ 1
  · obtain ⟨ha, hok, hs, hh⟩ := s_later hE.1.2 hE.2.1 hw lh lD
    obtain ⟨held', e3, l3⟩ := p6_holdsS N (by omega) s held
    obtain ⟨a, o, lo', fd, s1, e1, e2, q⟩ := o_dry_l N hN hg ht x1 N (-4) 0 _ s hr lr N (by omega) (by omega) (by omega) (by omega) (by omega) (by omega) ha hok
    obtain ⟨s', e5, l5⟩ := p6_lets N (by omega) held' s1
    have fin := s_cw_same cc (fun x p q => (l5 x p q).trans (l3 x p q))
    rw [if_pos h1, if_pos p_t1, if_pos p_t1, p_copyNow, p_b3, e1, e3, p_b1, e2, p_b3, e5, p_b1]
    refine ⟨a, o, s', held', rfl, ?_, fin⟩
    rw [q]
    by_cases h0 : x1 = 0
    · rw [if_pos h0, if_pos h0]
    · rw [if_neg h0, if_neg h0]
      by_cases h4 : fd ≠ -4
      · rw [if_pos h4, if_pos h4]
      · rw [if_neg h4, if_neg h4]
  · rw [if_neg h1, if_neg p_f0, if_neg p_f0]
    exact ⟨_, _, _, _, rfl, rfl, cc⟩
/-- rain, then the states -/
theorem p_apartRain (N : Nat) (hN : 1000000 ≤ N) {R C B : Int} {K be : Int → Int} {bb : Int → Int64} {h D : Int → Int} {hr : Int} {told s : Int → Int} (c : s_cw R C B K be bb h D hr told s) (lh lD : Int → Int) (lhr : Int) (lr : Int64) (st wt : Int → Int) (ws sc sm : Int) (T : Int → Int) (x y k : Int) (hx : 0 ≤ x ∧ x < R * C) (hy : 0 ≤ y ∧ y < R * C) (hk : 0 ≤ k ∧ k ≤ 60) : ∃ a o s1 b T', m_X5_apartBehindRain N (R * C) K be bb h D hr lh lD lhr lr st wt ws sc sm x y k = some (a, o) ∧ (if k ≤ 0 then some s else z_b1 (m_X6_pours N told s k) (fun w => some w)) = some s1 ∧ m_X6_isOne N told s1 T x y = some (b, T') ∧ ((a = 0 ∧ b = 1) ∨ (a = 1 ∧ b = 0)) := by
  obtain ⟨hd, hg, ht, hkk, hw⟩ := c
  have hn := s_dim_n hd
  have hE := s_env_nb K hd
  obtain ⟨ha, hok, hs, hh⟩ := s_later hE.1.2 hE.2.1 hw lh lD
  obtain ⟨r', e1⟩ := p_pour N hN (R * C) (s_nb R C K) K _ _ be bb hE hok hg lr k (by omega)
  have ok2 := s_pour_ok (R * C) (s_nb R C K) K _ _ k hk hE hok
  have hG := s_gr_of hE ok2
  obtain ⟨L, W, m, e2, l2⟩ := p_map N (by omega) (R * C) (s_nb R C K) _ be bb hG hg st wt ws sc sm
  have pr : ∃ s1, (if k ≤ 0 then some s else z_b1 (m_X6_pours N told s k) (fun w => some w)) = some s1 ∧ s_ag s1 (z_cpy h lh 0 0 36) (s_pour (R * C) (s_nb R C K) K (z_cpy h lh 0 0 36) k (z_cpy D lD 0 0 36)) hr := by
    by_cases h0 : k ≤ 0
    · have : k = 0 := by omega
      subst this
      rw [if_pos h0, s_pour_zero _ _ K _ _ (by omega) hok hs]
      exact ⟨s, rfl, ha⟩
    · obtain ⟨s1, e3, a3⟩ := p6_pours N hN R C hr K told s _ _ ht ha hok k (by omega)
      rw [if_neg h0, e3, p_b1]
      exact ⟨s1, rfl, a3⟩
  obtain ⟨s1, e3, a3⟩ := pr
  obtain ⟨T', e4, l4⟩ := p6_isOne N (by omega) R C hr K told s1 _ _ T ht a3 hG x y hx hy
  have lx := s_lab_as hG l2 l4 x hx
  have ly := s_lab_as hG l2 l4 y hy
  rw [m_X5_apartBehindRain, p_copyNow, p_b3, e1, p_b2, e2, p_b5, p_apart N (R * C) x y L (by omega) hx hy, p_b1]
  refine ⟨_, _, s1, _, T', rfl, e3, e4, ?_⟩
  by_cases q : L x ≠ -4 ∧ L x = L y
  · rw [if_pos q, if_pos (by omega)]
    exact Or.inl ⟨rfl, rfl⟩
  · rw [if_neg q, if_neg (by omega)]
    exact Or.inr ⟨rfl, rfl⟩
theorem o_join_l (N : Nat) (hN : 1000000 ≤ N) {R C B : Int} {K be : Int → Int} {bb : Int → Int64} {h D : Int → Int} {hr : Int} {told held : Int → Int} (x y : Int) (hx : 0 ≤ x ∧ x < R * C) (hy : 0 ≤ y ∧ y < R * C) : ∀ (f : Nat) (v : Int) (s T lh lD : Int → Int) (lhr : Int) (lr : Int64) (st wt : Int → Int) (ws sc sm : Int) (f' : Nat), 0 ≤ v → v ≤ 31 → (31 - v).toNat < f → (31 - v).toNat + 1 < f' → s_cw R C B K be bb h D hr told s → (∀ i, 0 ≤ i → i < 73 → held i = s i) → ∃ a o s' T', m_X5_join_l1 N (R * C) K be bb h D hr x y f v lh lD lhr lr st wt ws sc sm = some (a, o) ∧ m_X6_join_l1 N told x y held f' (-4) v s T = some (a, s', T') ∧ s_cw R C B K be bb h D hr told s' := by
  intro f
  induction f with
  | zero => intro v s T lh lD lhr lr st wt ws sc sm f' _ _ hf; omega
  | succ f ih =>
    intro v s T lh lD lhr lr st wt ws sc sm f' g0 g1 hf hf' c hh
    obtain ⟨f2, rfl⟩ : ∃ f2, f' = f2 + 1 := ⟨f' - 1, by omega⟩
    rw [m_X5_join_l1, m_X6_join_l1]
    by_cases hc : 30 < v
    · rw [if_pos hc, if_pos (show 31 ≤ v by omega)]
      exact ⟨_, _, _, _, rfl, rfl, c⟩
    · obtain ⟨a, o, s1, b, T', e1, e2, e3, e4⟩ := p_apartRain N hN c lh lD lhr lr st wt ws sc sm T x y v hx hy (by omega)
      obtain ⟨o1, o2, o3, o4, o5, o6, o7, o8, o9⟩ := o
      obtain ⟨s2, e5, l5⟩ := p6_lets N (by omega) held s1
      have c2 := s_cw_same c (fun i p q => (l5 i p q).trans (hh i p q))
      rw [if_neg hc, if_neg (show ¬ 31 ≤ v by omega), if_neg (show ¬ (-4 : Int) ≠ -4 by omega), e1, p_b10, e2, p_b1, e3, p_b2]
      rcases e4 with ⟨q1, q2⟩ | ⟨q1, q2⟩
      · subst q1 q2
        rw [if_neg p_f0, if_neg p_f1, p_b1, e5, p_b1, z_chk_pos (by omega)]
        obtain ⟨f3, rfl⟩ : ∃ f3, f2 = f3 + 1 := ⟨f2 - 1, by omega⟩
        have e6 : m_X6_join_l1 N told x y held (f3 + 1) v (v + 1) s2 T' = some (v, s2, T') := by
          rw [m_X6_join_l1]
          by_cases h6 : 31 ≤ v + 1
          · rw [if_pos h6]
          · rw [if_neg h6, if_pos (by omega)]
        rw [e6]
        exact ⟨_, _, _, _, rfl, rfl, c2⟩
      · subst q1 q2
        rw [if_pos p_t1, if_pos p_t0, p_b1, e5, p_b1, z_chk_pos (by omega), z_chk_pos (by omega)]
        exact ih (v + 1) s2 T' _ _ _ _ _ _ _ _ _ f2 (by omega) (by omega) (by omega) (by omega) c2 (fun i p q => (l5 i p q).symm)
theorem p_areTwo (N : Nat) (n x y : Int) (hn : n ≤ 36) : m_X5_areTwo N n x y = some (if (0 ≤ x ∧ x < n) ∧ (0 ≤ y ∧ y < n) ∧ x ≠ y then 1 else 0) := by
  rw [m_X5_areTwo, p_holds, p_b1, p_holds]
  by_cases h1 : 0 ≤ x ∧ x < n
  · rw [if_pos (show 0 ≤ x ∧ x < n ∧ x < 36 by omega), if_neg p_f1, p_b1]
    by_cases h2 : 0 ≤ y ∧ y < n
    · rw [if_pos (show 0 ≤ y ∧ y < n ∧ y < 36 by omega), if_neg p_f1]
      by_cases h3 : x = y
      · rw [if_pos h3, if_neg (fun z => z.2.2 h3)]
      · rw [if_neg h3, if_pos ⟨h1, h2, h3⟩]
    · rw [if_neg (show ¬(0 ≤ y ∧ y < n ∧ y < 36) by omega), if_pos p_t0, if_neg (fun z => h2 z.2.1)]
  · rw [if_neg (show ¬(0 ≤ x ∧ x < n ∧ x < 36) by omega), if_pos p_t0, if_neg (fun z => h1 z.1)]
theorem o_join (N : Nat) (hN : 1000000 ≤ N) {R C B : Int} {K be : Int → Int} {bb : Int → Int64} {h D : Int → Int} {hr : Int} {told s : Int → Int} (c : s_cw R C B K be bb h D hr told s) (lh lD : Int → Int) (lhr : Int) (lr : Int64) (st wt : Int → Int) (ws sc sm : Int) (T held : Int → Int) (x1 x2 : Int) : ∃ a o s' T' held', m_X5_join N (R * C) K be bb h D hr lh lD lhr lr st wt ws sc sm x1 x2 = some (a, o) ∧ m_X6_join N told s T held x1 x2 = some (a, s', T', held') ∧ s_cw R C B K be bb h D hr told s' := by
  have hn := s_dim_n c.1
  have ht := c.2.2.1
  rw [m_X5_join, m_X6_join, p_areTwo N _ x1 x2 (by omega), p_b1, p6_isCell N ht, p6_isCell N ht, p_b1, p_b1]
  by_cases h1 : 0 ≤ x1 ∧ x1 < R * C
  · by_cases h2 : 0 ≤ x2 ∧ x2 < R * C
    · by_cases h3 : x1 ≠ x2
      · obtain ⟨held', e3, l3⟩ := p6_holdsS N (by omega) s held
        obtain ⟨a, o, s', T', e1, e2, c2⟩ := o_join_l N hN x1 x2 h1 h2 N 0 s T lh lD lhr lr st wt ws sc sm N (by omega) (by omega) (by omega) (by omega) c l3
        rw [if_pos (show (0 ≤ x1 ∧ x1 < R * C) ∧ (0 ≤ x2 ∧ x2 < R * C) ∧ x1 ≠ x2 from ⟨h1, h2, h3⟩), if_pos p_t1, if_pos h1, if_neg p_f1, if_pos h2, if_neg p_f1, if_pos h3, e1, e3, p_b1, e2, p_b3]
        exact ⟨_, _, _, _, _, rfl, rfl, c2⟩
      · rw [if_neg (show ¬((0 ≤ x1 ∧ x1 < R * C) ∧ (0 ≤ x2 ∧ x2 < R * C) ∧ x1 ≠ x2) from fun z => h3 z.2.2), if_neg p_f0, if_pos h1, if_neg p_f1, if_pos h2, if_neg p_f1, if_neg h3]
        exact ⟨_, _, _, _, _, rfl, rfl, c⟩
    · rw [if_neg (show ¬((0 ≤ x1 ∧ x1 < R * C) ∧ (0 ≤ x2 ∧ x2 < R * C) ∧ x1 ≠ x2) from fun z => h2 z.2.1), if_neg p_f0, if_pos h1, if_neg p_f1, if_neg h2, if_pos p_t0]
      exact ⟨_, _, _, _, _, rfl, rfl, c⟩
  · rw [if_neg (show ¬((0 ≤ x1 ∧ x1 < R * C) ∧ (0 ≤ x2 ∧ x2 < R * C) ∧ x1 ≠ x2) from fun z => h1 z.1), if_neg p_f0, if_neg h1, if_pos p_t0]
    exact ⟨_, _, _, _, _, rfl, rfl, c⟩
theorem o_part_l (N : Nat) (hN : 1000000 ≤ N) {R C : Int} {K be : Int → Int} {bb : Int → Int64} {h : Int → Int} {told : Int → Int} (hg : s_gb (R * C) (s_nb R C K) be bb) (ht : s_tk R C K told) (x y : Int) (hx : 0 ≤ x ∧ x < R * C) (hy : 0 ≤ y ∧ y < R * C) : ∀ (f : Nat) (v : Int) (D s T : Int → Int) (hr : Int) (r : Int64) (st wt : Int → Int) (ws sc sm : Int) (f' : Nat), 0 ≤ v → v ≤ 61 → (61 - v).toNat < f → (61 - v).toNat + 1 < f' → 0 ≤ hr → hr + (61 - v) ≤ 800000 → s_ag s h D hr → s_ok (R * C) K h D → ∃ a o s' T', m_X5_part_l1 N h (R * C) K be bb x y f v D hr r st wt ws sc sm = some (a, o) ∧ m_X6_part_l1 N told x y f' (-4) v s T = some (a, s', T') := by
  have hn := s_dim_n ht.1
  have hE := s_env_nb K ht.1
  intro f
  induction f with
  | zero => intro v D s T hr r st wt ws sc sm f' _ _ hf; omega
  | succ f ih =>
    intro v D s T hr r st wt ws sc sm f' g0 g1 hf hf' i0 i1 ha hok
    obtain ⟨f2, rfl⟩ : ∃ f2, f' = f2 + 1 := ⟨f' - 1, by omega⟩
    rw [m_X5_part_l1, m_X6_part_l1]
    by_cases hc : 60 < v
    · rw [if_pos hc, if_pos (show 61 ≤ v by omega)]
      exact ⟨_, _, _, _, rfl, rfl⟩
    · obtain ⟨r', e1⟩ := p_pass1 N hN (R * C) (s_nb R C K) K h D be bb hE hok hg r hr (by omega)
      obtain ⟨s1, e2, a2⟩ := p6_shines N hN R C hr K told s h D ht ha hok (by omega)
      have ok2 := s_hour_ok (R * C) (s_nb R C K) K h D hr hE hok
      have hG := s_gr_of hE ok2
      obtain ⟨L, W, m, e3, l3⟩ := p_map N (by omega) (R * C) (s_nb R C K) _ be bb hG hg st wt ws sc sm
      obtain ⟨T', e4, l4⟩ := p6_isOne N (by omega) R C _ K told s1 _ _ T ht a2 hG x y hx hy
      have lx := s_lab_as hG l3 l4 x hx
      have ly := s_lab_as hG l3 l4 y hy
      rw [if_neg hc, if_neg (show ¬ 61 ≤ v by omega), if_neg (show ¬ (-4 : Int) ≠ -4 by omega), e1, p_b3, e3, p_b5, p_apart N (R * C) x y L (by omega) hx hy, p_b1, e2, p_b1, e4, p_b2]
      by_cases q : L x ≠ -4 ∧ L x = L y
      · rw [if_pos q, if_pos p_t0, if_pos (show 0 ≤ T' x ∧ T' x = T' y by omega), if_neg p_f1, z_chk_pos (by omega), z_chk_pos (by omega)]
        exact ih (v + 1) _ s1 T' (hr + 1) r' _ _ _ _ _ f2 (by omega) (by omega) (by omega) (by omega) (by omega) (by omega) a2 ok2
      · rw [if_neg q, if_neg p_f1, if_neg (show ¬ (0 ≤ T' x ∧ T' x = T' y) by omega), if_pos p_t0, z_chk_pos (by omega)]
        obtain ⟨f3, rfl⟩ : ∃ f3, f2 = f3 + 1 := ⟨f2 - 1, by omega⟩
        have e6 : m_X6_part_l1 N told x y (f3 + 1) v (v + 1) s1 T' = some (v, s1, T') := by
          rw [m_X6_part_l1]
          by_cases h6 : 61 ≤ v + 1
          · rw [if_pos h6]
          · rw [if_neg h6, if_pos (by omega)]
        rw [e6]
        exact ⟨_, _, _, _, rfl, rfl⟩
theorem o_part (N : Nat) (hN : 1000000 ≤ N) {R C B : Int} {K be : Int → Int} {bb : Int → Int64} {h D : Int → Int} {hr : Int} {told s : Int → Int} (hB : B ≤ 700000) (c : s_cw R C B K be bb h D hr told s) (lh lD : Int → Int) (lhr : Int) (lr : Int64) (st wt : Int → Int) (ws sc sm : Int) (T held : Int → Int) (x1 x2 : Int) : ∃ a o s' T' held', m_X5_part N (R * C) K be bb h D hr lh lD lhr lr st wt ws sc sm x1 x2 = some (a, o) ∧ m_X6_part N told s T held x1 x2 = some (a, s', T', held') ∧ s_cw R C B K be bb h D hr told s' := by
  have cc := c
  obtain ⟨hd, hg, ht, hk, hw⟩ := c
  have hn := s_dim_n hd
  have hE := s_env_nb K hd
  rw [m_X5_part, m_X6_part, p_areTwo N _ x1 x2 (by omega), p_b1, p6_isCell N ht, p6_isCell N ht, p_b1, p_b1]
  by_cases h1 : 0 ≤ x1 ∧ x1 < R * C
  · by_cases h2 : 0 ≤ x2 ∧ x2 < R * C
    · by_cases h3 : x1 ≠ x2
      · have hG := s_gr_of hE hw.2.1
        obtain ⟨L, W, m, e3, l3⟩ := p_map N (by omega) (R * C) (s_nb R C K) _ be bb hG hg st wt ws sc sm
        obtain ⟨T1, e4, l4⟩ := p6_isOne N (by omega) R C _ K told s _ _ T ht hw.1 hG x1 x2 h1 h2
        have lx := s_lab_as hG l3 l4 x1 h1
        have ly := s_lab_as hG l3 l4 x2 h2
        rw [if_pos (show (0 ≤ x1 ∧ x1 < R * C) ∧ (0 ≤ x2 ∧ x2 < R * C) ∧ x1 ≠ x2 from ⟨h1, h2, h3⟩), if_pos p_t1, if_pos h1, if_neg p_f1, if_pos h2, if_neg p_f1, if_pos h3, e3, p_b5, p_apart N (R * C) x1 x2 L (by omega) h1 h2, p_b1, e4, p_b2]
        by_cases q : L x1 ≠ -4 ∧ L x1 = L x2
        · obtain ⟨ha, hok, hs, hh⟩ := s_later hE.1.2 hE.2.1 hw lh lD
          obtain ⟨held', e5, l5⟩ := p6_holdsS N (by omega) s held
          obtain ⟨a, o, s1, T', e6, e7⟩ := o_part_l N hN hg ht x1 x2 h1 h2 N 1 _ s T1 hr lr L W m (R * C) (s_rt L (R * C).toNat) N (by omega) (by omega) (by omega) (by omega) (by omega) (by omega) ha hok
          obtain ⟨s', e8, l8⟩ := p6_lets N (by omega) held' s1
          have fin := s_cw_same cc (fun x p q => (l8 x p q).trans (l5 x p q))
          rw [if_pos q, if_pos p_t0, p_copyNow, p_b3, e6, if_pos (show 0 ≤ T1 x1 ∧ T1 x1 = T1 x2 by omega), if_pos p_t1, e5, p_b1, e7, p_b3, e8, p_b1]
          exact ⟨_, _, _, _, _, rfl, rfl, fin⟩
        · rw [if_neg q, if_neg p_f1, if_neg (show ¬ (0 ≤ T1 x1 ∧ T1 x1 = T1 x2) by omega), if_neg p_f0]
          exact ⟨_, _, _, _, _, rfl, rfl, cc⟩
      · rw [if_neg (show ¬((0 ≤ x1 ∧ x1 < R * C) ∧ (0 ≤ x2 ∧ x2 < R * C) ∧ x1 ≠ x2) from fun z => h3 z.2.2), if_neg p_f0, if_pos h1, if_neg p_f1, if_pos h2, if_neg p_f1, if_neg h3]
        exact ⟨_, _, _, _, _, rfl, rfl, cc⟩
    · rw [if_neg (show ¬((0 ≤ x1 ∧ x1 < R * C) ∧ (0 ≤ x2 ∧ x2 < R * C) ∧ x1 ≠ x2) from fun z => h2 z.2.1), if_neg p_f0, if_pos h1, if_neg p_f1, if_neg h2, if_pos p_t0]
      exact ⟨_, _, _, _, _, rfl, rfl, cc⟩
  · rw [if_neg (show ¬((0 ≤ x1 ∧ x1 < R * C) ∧ (0 ≤ x2 ∧ x2 < R * C) ∧ x1 ≠ x2) from fun z => h1 z.1), if_neg p_f0, if_neg h1, if_pos p_t0]
    exact ⟨_, _, _, _, _, rfl, rfl, cc⟩
