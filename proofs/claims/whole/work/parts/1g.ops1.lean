/-! the operations, one after the other -/
theorem p_t1 : (1 : Int) ≠ 0 := by decide
theorem p_f1 : ¬ (1 : Int) = 0 := by decide
theorem p_f0 : ¬ (0 : Int) ≠ 0 := by decide
theorem p_t0 : (0 : Int) = 0 := rfl
theorem s_it_rest (n : Int) (nb : Int → Int → Int) (K h D be : Int → Int) (bb : Int → Int64) (hE : s_env n nb K) (hok : s_ok n K h D) (hg : s_gb n nb be bb) : s_still n nb K h (s_flow n nb K h D) := by
  have hn := hE.1
  have hphi := s_phi_le n K h D hok n.toNat (by omega)
  have nn := s_phi_nn h D n.toNat
  obtain ⟨b, e, hb⟩ := p_wetBits 2000000 (by omega) n D hn
  have base : s_it n nb K h 0 D = D := rfl
  obtain ⟨j', r', e2, hj, hs⟩ := p_flow_l1 2000000 (by omega) n nb K h D be bb hE hok hg 2000000 0 b (by
    rw [base]
    intro y a c
    refine ⟨fun q => ((hb y a c).mp q).1, fun q z => ?_⟩
    rcases s_tgt_spec nb K h D y with w | ⟨s, -, -, hv⟩
    · exact w
    · exact absurd ((hb y a c).mpr ⟨q, hv.1⟩) z) (by
    by_cases h0 : b = 0
    · exact Or.inl ⟨h0, by omega, by omega⟩
    · right
      rw [base]
      constructor
      · omega
      · omega)
  rw [← s_flow_of n nb K h D hn.1 j' hj hs]
  exact hs
theorem s_flow_rest {R C : Int} {K h D : Int → Int} (hd : s_dim R C) (hok : s_ok (R * C) K h D) : s_still (R * C) (s_nb R C K) K h (s_flow (R * C) (s_nb R C K) K h D) := by
  obtain ⟨be, bb, -, hg⟩ := p_link 2000000 R C K hd (by omega) (fun _ => 0) (fun _ => 0)
  exact s_it_rest _ _ K h D be bb (s_env_nb K hd) hok hg
theorem s_prD_zero (n : Int) (K h D : Int → Int) (hn : n ≤ 36) (hok : s_ok n K h D) : s_prD n K 0 D = D := by
  funext y
  unfold s_prD s_upto s_pF
  by_cases h : 0 ≤ y ∧ y < n
  · have := (hok y h.1 (by omega)).2.1
    rw [if_pos h, if_neg (show ¬ 60 < D y + 0 by omega)]
    split <;> omega
  · rw [if_neg h]
theorem s_pour_zero (n : Int) (nb : Int → Int → Int) (K h D : Int → Int) (hn : 0 ≤ n ∧ n ≤ 36) (hok : s_ok n K h D) (hs : s_still n nb K h D) : s_pour n nb K h 0 D = D := by
  unfold s_pour
  rw [s_prD_zero n K h D hn.2 hok, s_flow_still n nb K h D hn.1 hs]
/-- the ground and the water, in the class and in the reference -/
def s_cw (R C B : Int) (K be : Int → Int) (bb : Int → Int64) (h D : Int → Int) (hr : Int) (told s : Int → Int) : Prop := s_dim R C ∧ s_gb (R * C) (s_nb R C K) be bb ∧ s_tk R C K told ∧ (∀ i, 0 ≤ i → i < 36 → 0 ≤ K i ∧ K i ≤ 4) ∧ s_wt (R * C) (s_nb R C K) K B s h D hr
theorem s_cw_up {R C B B' : Int} {K be : Int → Int} {bb : Int → Int64} {h D : Int → Int} {hr : Int} {told s : Int → Int} (c : s_cw R C B K be bb h D hr told s) (hB : B ≤ B') : s_cw R C B' K be bb h D hr told s := ⟨c.1, c.2.1, c.2.2.1, c.2.2.2.1, s_wt_up c.2.2.2.2 hB⟩
theorem s_cw_w {R C B B' : Int} {K be : Int → Int} {bb : Int → Int64} {h D h' D' : Int → Int} {hr hr' : Int} {told s s' : Int → Int} (c : s_cw R C B K be bb h D hr told s) (w : s_wt (R * C) (s_nb R C K) K B' s' h' D' hr') : s_cw R C B' K be bb h' D' hr' told s' := ⟨c.1, c.2.1, c.2.2.1, c.2.2.2.1, w⟩
theorem s_ne_nb {R C : Int} {K : Int → Int} (hd : s_dim R C) (x : Int) : ∀ v, 0 ≤ v → v ≤ 3 → 0 ≤ s_nb R C K x v → s_nb R C K x v ≠ x := fun v a b c => s_nb_ne hd ⟨a, b⟩ c
theorem o_rain (N : Nat) (hN : 1000000 ≤ N) {R C B : Int} {K be : Int → Int} {bb : Int → Int64} {h D : Int → Int} {hr : Int} {told s : Int → Int} {uH uD uh P : Int → Int} {uk : Int} (c : s_cw R C B K be bb h D hr told s) (u : s_stk (R * C) (s_nb R C K) K B uH uD uh P uk 8) (r : Int64) (x1 : Int) : ∃ a D' r' uH' uD' uh' uk' s' P', m_X5_rain N (R * C) K be bb h D hr r uH uD uh uk x1 = some (a, D', r', uH', uD', uh', uk') ∧ m_X6_rain N told s P uk x1 = some (a, s', P', uk') ∧ s_cw R C B K be bb h D' hr told s' ∧ s_stk (R * C) (s_nb R C K) K B uH' uD' uh' P' uk' 8 := by
  obtain ⟨hd, hg, ht, hk, hw⟩ := c
  have hn := s_dim_n hd
  have hE := s_env_nb K hd
  obtain ⟨ha, hok, hs, hh⟩ := hw
  rw [m_X5_rain, p_isFrom, p_b1, m_X6_rain, p_in, p_b1]
  by_cases hx : 1 ≤ x1 ∧ x1 ≤ 9
  · obtain ⟨H', Dr', hs', P', k', e1, e2, e3⟩ := p_push N (by omega) hE.1.2 hE.2.1 u ⟨ha, hok, hs, hh⟩
    obtain ⟨r', e4⟩ := p_pour N hN (R * C) (s_nb R C K) K h D be bb hE hok hg r x1 (by omega)
    obtain ⟨s', e5, ha'⟩ := p6_pours N hN R C hr K told s h D ht ha hok x1 (by omega)
    have ok' := s_pour_ok (R * C) (s_nb R C K) K h D x1 (by omega) hE hok
    have e6 := p_allDrops N (by omega) (R * C) _ (by omega) (fun x a b => (ok' x a b).2.1)
    have e7 := p6_all N (by omega) R C hr K told s' h _ ht ha' ok'
    rw [if_pos hx, if_pos p_t1, if_pos p_t1, e1, p_b4, e4, p_b2, e6, p_b1, e2, p_b2, e5, p_b1, e7, p_b1]
    exact ⟨_, _, _, _, _, _, _, _, _, rfl, rfl, ⟨hd, hg, ht, hk, ha', ok', s_flow_rest hd (s_prD_ok _ K h D x1 (by omega) hok), hh⟩, e3⟩
  · rw [if_neg hx, if_neg p_f0, if_neg p_f0]
    exact ⟨_, _, _, _, _, _, _, _, _, rfl, rfl, ⟨hd, hg, ht, hk, ha, hok, hs, hh⟩, u⟩
theorem p6_shineH (N : Nat) (hN : 1000000 ≤ N) (R C hr k : Int) (K t h D s : Int → Int) (ht : s_tk R C K t) (hok : s_ok (R * C) K h D) (hh : 0 ≤ hr ∧ hr ≤ 800000) (hk : 0 ≤ k ∧ k ≤ 10000) (ha : s_ag s h D hr) : ∃ s', m_X6_shine_l1 N k t N 0 s = some s' ∧ s_ag s' h (s_hs (R * C) (s_nb R C K) K h hr k.toNat D) (hr + k) :=
  p6_hours N hN R C hr k K t h D (m_X6_shine_l1 N k t) (fun f v s => by rw [m_X6_shine_l1]) ht hok hh hk.2 N 0 s (by omega) (by omega) (by rw [show hr + ((0 : Nat) : Int) = hr by omega]; exact ha)
theorem s_hs_rest {R C : Int} {K h D : Int → Int} (hd : s_dim R C) (hok : s_ok (R * C) K h D) (hs : s_still (R * C) (s_nb R C K) K h D) (hr : Int) : ∀ j : Nat, s_still (R * C) (s_nb R C K) K h (s_hs (R * C) (s_nb R C K) K h hr j D)
  | 0 => hs
  | j + 1 => s_flow_rest hd (s_hrD_ok _ K h _ _ (s_hs_ok _ _ K h D hr (s_env_nb K hd) hok j))
theorem o_shine (N : Nat) (hN : 1000000 ≤ N) {R C B : Int} {K be : Int → Int} {bb : Int → Int64} {h D : Int → Int} {hr : Int} {told s : Int → Int} {uH uD uh P : Int → Int} {uk : Int} (hB : B ≤ 700000) (c : s_cw R C B K be bb h D hr told s) (u : s_stk (R * C) (s_nb R C K) K B uH uD uh P uk 8) (r : Int64) (x1 : Int) : ∃ a D' hr' r' uH' uD' uh' uk' s' P', m_X5_shine N (R * C) K be bb h D hr r uH uD uh uk x1 = some (a, D', hr', r', uH', uD', uh', uk') ∧ m_X6_shine N told s P uk x1 = some (a, s', P', uk') ∧ s_cw R C (B + 20) K be bb h D' hr' told s' ∧ s_stk (R * C) (s_nb R C K) K (B + 20) uH' uD' uh' P' uk' 8 := by
  have c' := s_cw_up c (show B ≤ B + 20 by omega)
  have u' := s_stk_up u (show B ≤ B + 20 by omega)
  obtain ⟨hd, hg, ht, hk, hw⟩ := c
  have hn := s_dim_n hd
  have hE := s_env_nb K hd
  have hw' := s_wt_up hw (show B ≤ B + 20 by omega)
  obtain ⟨ha, hok, hs, hh⟩ := hw
  rw [m_X5_shine, p_isFrom, p_b1, m_X6_shine, p_in, p_b1]
  by_cases hx : 1 ≤ x1 ∧ x1 ≤ 20
  · obtain ⟨H', Dr', hs', P', k', e1, e2, e3⟩ := p_push N (by omega) hE.1.2 hE.2.1 u' hw'
    obtain ⟨r', e4⟩ := p_passHours N hN (R * C) (s_nb R C K) K h D be bb hE hok hg r hr x1 (by omega) (by omega)
    obtain ⟨s', e5, ha'⟩ := p6_shineH N hN R C hr x1 K told h D s ht hok (by omega) (by omega) ha
    rw [if_pos hx, if_pos p_t1, if_pos p_t1, e1, p_b4, e4, p_b3, e2, p_b2, e5, p_b1, z_chk_pos (by omega), ha'.2.2]
    exact ⟨_, _, _, _, _, _, _, _, _, _, rfl, rfl, s_cw_w c' ⟨ha', s_hs_ok _ _ K h D hr hE hok _, s_hs_rest hd hok hs hr _, by omega, by omega⟩, e3⟩
  · rw [if_neg hx, if_neg p_f0, if_neg p_f0]
    exact ⟨_, _, _, _, _, _, _, _, _, _, rfl, rfl, c', u'⟩
theorem o_boot (N : Nat) (hN : 1000000 ≤ N) {R C B : Int} {K be : Int → Int} {bb : Int → Int64} {h D : Int → Int} {hr : Int} {told s : Int → Int} {uH uD uh P : Int → Int} {uk : Int} (c : s_cw R C B K be bb h D hr told s) (u : s_stk (R * C) (s_nb R C K) K B uH uD uh P uk 8) (r : Int64) (x1 : Int) : ∃ a D' r' uH' uD' uh' uk' s' P', m_X5_boot N (R * C) K be bb h D hr r uH uD uh uk x1 = some (a, D', r', uH', uD', uh', uk') ∧ m_X6_boot N told s P uk x1 = some (a, s', P', uk') ∧ s_cw R C B K be bb h D' hr told s' ∧ s_stk (R * C) (s_nb R C K) K B uH' uD' uh' P' uk' 8 := by
  have cc := c
  obtain ⟨hd, hg, ht, hk, hw⟩ := c
  have hn := s_dim_n hd
  have hE := s_env_nb K hd
  obtain ⟨ha, hok, hs, hh⟩ := hw
  rw [m_X5_boot, p_holds, p_b1, m_X6_boot, p6_isCell N ht, p_b1]
  by_cases hx : 0 ≤ x1 ∧ x1 < R * C
  · rw [if_pos (show 0 ≤ x1 ∧ x1 < R * C ∧ x1 < 36 by omega), if_pos p_t1, z_chk_pos (by omega), if_pos hx, if_pos p_t1, z_chk_pos (by omega), ha.1 x1 hx.1 (by omega)]
    by_cases h0 : D x1 ≠ 0
    · obtain ⟨H', Dr', hs', P', k', e1, e2, e3⟩ := p_push N (by omega) hE.1.2 hE.2.1 u ⟨ha, hok, hs, hh⟩
      obtain ⟨r', e4⟩ := p_stepInto N hN (R * C) (s_nb R C K) K h D be bb hE hok hg r x1 hx (s_ne_nb hd x1)
      obtain ⟨s1, e5, a1⟩ := p6_boot_l1 N R C hr K told h D ht hok x1 hx N 0 s (by omega) (by omega) ha
      have ok1 := s_bt_ok (R * C) (s_nb R C K) K h D hE hok x1 hx (s_ne_nb hd x1) 4 (by omega)
      obtain ⟨s', e6, a2⟩ := p6_flows N hN R C hr K told s1 h _ ht a1 ok1
      have ok2 := s_flow_ok (R * C) (s_nb R C K) K h _ hE ok1
      rw [if_pos h0, if_pos h0, e1, p_b4, e4, p_b2, z_chk_pos (by omega), e2, p_b2, show m_X6_boot_l1 N told x1 N 0 s = _ from e5, p_b1, e6, p_b1, z_chk_pos (by omega), a2.1 x1 hx.1 (by omega)]
      exact ⟨_, _, _, _, _, _, _, _, _, rfl, rfl, ⟨hd, hg, ht, hk, a2, ok2, s_flow_rest hd ok1, hh⟩, e3⟩
    · rw [if_neg h0, if_neg h0]
      exact ⟨_, _, _, _, _, _, _, _, _, rfl, rfl, cc, u⟩
  · rw [if_neg (show ¬(0 ≤ x1 ∧ x1 < R * C ∧ x1 < 36) by omega), if_neg p_f0, if_neg hx, if_neg p_f0]
    exact ⟨_, _, _, _, _, _, _, _, _, rfl, rfl, cc, u⟩
theorem o_stone (N : Nat) (hN : 1000000 ≤ N) {R C B : Int} {K be : Int → Int} {bb : Int → Int64} {h D : Int → Int} {hr : Int} {told s : Int → Int} {uH uD uh P : Int → Int} {uk : Int} (c : s_cw R C B K be bb h D hr told s) (u : s_stk (R * C) (s_nb R C K) K B uH uD uh P uk 8) (r : Int64) (x1 x2 : Int) : ∃ a h' D' r' uH' uD' uh' uk' s' P', m_X5_stone N (R * C) K be bb h D hr r uH uD uh uk x1 x2 = some (a, h', D', r', uH', uD', uh', uk') ∧ m_X6_stone N told s P uk x1 x2 = some (a, s', P', uk') ∧ s_cw R C B K be bb h' D' hr told s' ∧ s_stk (R * C) (s_nb R C K) K B uH' uD' uh' P' uk' 8 := by
  have cc := c
  obtain ⟨hd, hg, ht, hk, hw⟩ := c
  have hn := s_dim_n hd
  have hE := s_env_nb K hd
  obtain ⟨ha, hok, hs, hh⟩ := hw
  rw [m_X5_stone, p_holds, p_b1, m_X6_stone, p6_isCell N ht, p_b1]
  by_cases hx : 0 ≤ x1 ∧ x1 < R * C
  · have qx := hok x1 hx.1 (by omega)
    rw [if_pos (show 0 ≤ x1 ∧ x1 < R * C ∧ x1 < 36 by omega), if_pos p_t1, z_chk_pos (by omega), if_pos hx, if_pos p_t1, p6_isOpen N K told ht.2.2.2 x1 (by omega), p_b1, ha.2.1 x1 hx.1 (by omega)]
    have e0 : (if x2 = 0 then some (1 : Int) else some (-1)) = some (if x2 = 0 then 1 else -1) := by split <;> rfl
    have e9 : (if x2 = 0 then some (20 : Int) else some 0) = some (if x2 = 0 then 20 else 0) := by split <;> rfl
    have ed : (if x2 = 0 then (1 : Int) else -1) = 1 ∧ (if x2 = 0 then (20 : Int) else 0) = 20 ∨ (if x2 = 0 then (1 : Int) else -1) = -1 ∧ (if x2 = 0 then (20 : Int) else 0) = 0 := by split <;> simp
    rw [e0, e9, p_b1]
    generalize (if x2 = 0 then (1 : Int) else -1) = d at *
    generalize (if x2 = 0 then (20 : Int) else 0) = top at *
    rw [z_chk_pos (by omega), p_isFrom, p_b1]
    by_cases ho : K x1 ≠ 3 ∧ K x1 ≠ 2
    · have e1 : m_X0_takesRain N (R * C) K x1 = some 1 := by rw [p_takesRain, if_pos ⟨by omega, by omega, by omega, ho.1, ho.2⟩]
      rw [if_pos ho, if_neg (show ¬((1 : Int) = 0) by decide), z_chk_pos (by omega), z_chk_pos (by omega), p_b1]
      by_cases hin : 0 ≤ h x1 + d ∧ h x1 + d ≤ 20
      · obtain ⟨H', Dr', hs', P', k', e2, e3, e4⟩ := p_push N (by omega) hE.1.2 hE.2.1 u ⟨ha, hok, hs, hh⟩
        have ok1 : s_ok (R * C) K (z_up h x1 (h x1 + d)) D := fun y a b => by
          have q := hok y a b
          unfold z_up
          by_cases w : y = x1
          · rw [if_pos w]; exact ⟨by omega, q.2⟩
          · rw [if_neg w]; exact q
        have a1 : s_ag (z_up s (36 + x1) (h x1 + d)) (z_up h x1 (h x1 + d)) D hr := by
          refine ⟨fun y a b => ?_, fun y a b => ?_, ?_⟩
          · unfold z_up
            rw [if_neg (by omega)]; exact ha.1 y a b
          · unfold z_up
            by_cases w : y = x1
            · rw [if_pos (by omega), if_pos w]
            · rw [if_neg (by omega), if_neg w]; exact ha.2.1 y a b
          · unfold z_up
            rw [if_neg (by omega)]; exact ha.2.2
        obtain ⟨r', e5⟩ := p_flow N hN (R * C) (s_nb R C K) K _ D be bb hE ok1 hg r
        obtain ⟨s', e6, a2⟩ := p6_flows N hN R C hr K told _ _ D ht a1 ok1
        have ok2 := s_flow_ok (R * C) (s_nb R C K) K _ D hE ok1
        have nt : h x1 ≠ top := by omega
        have eh := a2.2.1 x1 hx.1 (by omega)
        have ez : z_up h x1 (h x1 + d) x1 = h x1 + d := if_pos rfl
        rw [if_pos hin, if_neg (show ¬((1 : Int) = 0) by decide), e1, p_b1, if_pos p_t1, e2, p_b4, z_chk_pos (by omega), e5, p_b2, if_pos nt, e3, p_b2, z_chk_pos (by omega), z_chk_pos (by omega), p_b1, z_chk_pos (by omega), z_chk_pos (by omega), e6, p_b1, z_chk_pos (by omega), z_chk_pos (by omega), eh, ez]
        exact ⟨_, _, _, _, _, _, _, _, _, _, rfl, rfl, ⟨hd, hg, ht, hk, a2, ok2, s_flow_rest hd ok1, hh⟩, e4⟩
      · rw [if_neg hin, if_pos rfl, if_neg (show ¬(h x1 ≠ top) by omega)]
        exact ⟨_, _, _, _, _, _, _, _, _, _, rfl, rfl, cc, u⟩
    · have e1 : m_X0_takesRain N (R * C) K x1 = some 0 := by rw [p_takesRain, if_neg (fun z => ho ⟨z.2.2.2.1, z.2.2.2.2⟩)]
      rw [if_neg ho, if_pos rfl, e1, p_b1, if_neg (show ¬((0 : Int) ≠ 0) by decide)]
      refine ⟨-2, h, D, r, uH, uD, uh, uk, s, P, ?_, rfl, cc, u⟩
      split <;> rfl
  · rw [if_neg (show ¬(0 ≤ x1 ∧ x1 < R * C ∧ x1 < 36) by omega), if_neg p_f0, if_neg hx, if_neg p_f0]
    exact ⟨_, _, _, _, _, _, _, _, _, _, rfl, rfl, cc, u⟩
theorem o_undo (N : Nat) (hN : 1000000 ≤ N) {R C B : Int} {K be : Int → Int} {bb : Int → Int64} {h D : Int → Int} {hr : Int} {told s : Int → Int} {uH uD uh P : Int → Int} {uk : Int} (c : s_cw R C B K be bb h D hr told s) (u : s_stk (R * C) (s_nb R C K) K B uH uD uh P uk 8) : ∃ a h' D' hr' uk' s', m_X5_undo N h D hr uH uD uh uk = some (a, h', D', hr', uk') ∧ m_X6_undo N s P uk = some (a, s', uk') ∧ s_cw R C B K be bb h' D' hr' told s' ∧ s_stk (R * C) (s_nb R C K) K B uH uD uh P uk' 8 := by
  have hE := s_env_nb K c.1
  have u1 := u.1
  rw [m_X5_undo, m_X6_undo]
  by_cases h0 : uk ≠ 0
  · obtain ⟨s', e1, h1⟩ := p6_undo_l1 N (by omega) s P (uk - 1) (by omega)
    rw [if_pos h0, if_pos h0, p_popA N uH uD uh h D hr uk (by omega), p_b4, z_chk_pos (by omega), e1, p_b1]
    obtain ⟨w, u'⟩ := s_stk_pop (h := h) (D := D) (s := s') hE.1.2 hE.2.1 u (by omega) h1
    exact ⟨_, _, _, _, _, _, rfl, rfl, s_cw_w c w, u'⟩
  · rw [if_neg h0, if_neg h0]
    exact ⟨_, _, _, _, _, _, rfl, rfl, c, u⟩
theorem o_keep (N : Nat) (hN : 1000000 ≤ N) {R C B : Int} {K be : Int → Int} {bb : Int → Int64} {h D : Int → Int} {hr : Int} {told s : Int → Int} {kH kD kh I : Int → Int} {kk : Int} (c : s_cw R C B K be bb h D hr told s) (u : s_stk (R * C) (s_nb R C K) K B kH kD kh I kk 2) : ∃ a kH' kD' kh' kk' I', m_X5_keep N h D hr kH kD kh kk = some (a, kH', kD', kh', kk') ∧ m_X6_keep N s I kk = some (a, I', kk') ∧ s_stk (R * C) (s_nb R C K) K B kH' kD' kh' I' kk' 2 := by
  have hE := s_env_nb K c.1
  have u1 := u.1
  rw [m_X5_keep, m_X6_keep]
  by_cases h0 : kk < 2
  · obtain ⟨I', e1, h1⟩ := p6_keep_l1 N (by omega) s I kk (by omega)
    rw [if_pos h0, if_pos (by omega), p_pushA N kH kD kh h D hr kk (by omega), p_b4, e1, p_b1, z_chk_pos (by omega)]
    exact ⟨_, _, _, _, _, _, rfl, rfl, s_stk_add hE.1.2 hE.2.1 u (by omega) c.2.2.2.2 h1⟩
  · rw [if_neg h0, if_neg (by omega)]
    exact ⟨_, _, _, _, _, _, rfl, rfl, u⟩
theorem o_back (N : Nat) (hN : 1000000 ≤ N) {R C B : Int} {K be : Int → Int} {bb : Int → Int64} {h D : Int → Int} {hr : Int} {told s : Int → Int} {kH kD kh I uH uD uh P : Int → Int} {kk uk : Int} (c : s_cw R C B K be bb h D hr told s) (v : s_stk (R * C) (s_nb R C K) K B uH uD uh P uk 8) (u : s_stk (R * C) (s_nb R C K) K B kH kD kh I kk 2) : ∃ a h' D' hr' uk' kk' s', m_X5_back N h D hr uk kH kD kh kk = some (a, h', D', hr', uk', kk') ∧ m_X6_back N s uk I kk = some (a, s', uk', kk') ∧ s_cw R C B K be bb h' D' hr' told s' ∧ s_stk (R * C) (s_nb R C K) K B uH uD uh P uk' 8 ∧ s_stk (R * C) (s_nb R C K) K B kH kD kh I kk' 2 := by
  have hE := s_env_nb K c.1
  have u1 := u.1
  rw [m_X5_back, m_X6_back]
  by_cases h0 : kk ≠ 0
  · obtain ⟨s', e1, h1⟩ := p6_back_l1 N (by omega) s I (kk - 1) (by omega)
    rw [if_pos h0, if_pos h0, p_popA N kH kD kh h D hr kk (by omega), p_b4, z_chk_pos (by omega), e1, p_b1]
    obtain ⟨w, u'⟩ := s_stk_pop (h := h) (D := D) (s := s') hE.1.2 hE.2.1 u (by omega) h1
    exact ⟨_, _, _, _, _, _, _, rfl, rfl, s_cw_w c w, ⟨by omega, fun i a b => by omega⟩, u'⟩
  · rw [if_neg h0, if_neg h0]
    exact ⟨_, _, _, _, _, _, _, rfl, rfl, c, v, u⟩
/-- the rings -/
def s_rg (m : Int) (rc rd rg : Int → Int) (k : Int) : Prop := (0 ≤ k ∧ k ≤ 6) ∧ ∀ i, 0 ≤ i → i < k → (0 ≤ rc i ∧ rc i < m) ∧ (0 ≤ rd i ∧ rd i ≤ 60) ∧ rg i = 100 * rc i + rd i
theorem o_ring (N : Nat) {R C : Int} {K told rc rd rg : Int → Int} {k : Int} (ht : s_tk R C K told) (u : s_rg (R * C) rc rd rg k) (x1 x2 : Int) : ∃ a rc' rd' k' rg', m_X5_ring N rc rd k (R * C) x1 x2 = some (a, rc', rd', k') ∧ m_X6_ring N told rg k x1 x2 = some (a, rg', k') ∧ s_rg (R * C) rc' rd' rg' k' := by
  have hn := s_dim_n ht.1
  have u1 := u.1
  rw [m_X5_ring, m_X6_ring, p_holds, p6_isCell N ht, p_b1, p_b1]
  by_cases hx : 0 ≤ x1 ∧ x1 < R * C
  · rw [if_pos (show 0 ≤ x1 ∧ x1 < R * C ∧ x1 < 36 by omega), if_pos hx, if_neg p_f1, if_neg p_f1, p_isFrom, p_in, p_b1, p_b1]
    by_cases hy : 0 ≤ x2 ∧ x2 ≤ 60
    · rw [if_pos hy, if_pos p_t1, if_pos p_t1, if_neg (by omega)]
      by_cases h6 : k < 6
      · rw [if_pos h6, z_chk_pos (by omega), z_chk_pos (by omega), z_chk_pos (by omega), if_pos (by omega), z_chk_pos (by omega), z_chk_pos (by omega), z_chk_pos (by omega), z_chk_pos (by omega)]
        refine ⟨_, _, _, _, _, rfl, rfl, by omega, fun i a b => ?_⟩
        unfold z_up
        by_cases w : i = k
        · rw [if_pos w, if_pos w, if_pos w]
          exact ⟨hx, hy, rfl⟩
        · rw [if_neg w, if_neg w, if_neg w]
          exact u.2 i a (by omega)
      · rw [if_neg h6, if_neg (by omega)]
        exact ⟨_, _, _, _, _, rfl, rfl, u⟩
    · rw [if_neg hy, if_neg p_f0, if_neg p_f0]
      exact ⟨_, _, _, _, _, rfl, rfl, u⟩
  · rw [if_neg (show ¬(0 ≤ x1 ∧ x1 < R * C ∧ x1 < 36) by omega), if_neg hx, if_pos p_t0, if_pos p_t0]
    exact ⟨_, _, _, _, _, rfl, rfl, u⟩
