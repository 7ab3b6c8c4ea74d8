/-! the text, item by item -/
theorem p6_item104 (N : Nat) (T d b : Int → Int) (n a m : Int) (ht : s_tx T n) (ha : 0 ≤ a ∧ a ≤ 400) (hm : d 0 * d 1 = m) (hm2 : 4 ≤ m ∧ m ≤ 36) : (∃ x y e, s_item T n a x y e ∧ x < m ∧ y ≤ 20 ∧ m_X6_readsItem N T n d b (a + 1) 104 = some (1, z_up d 2 1, z_up b (36 + x) y, e)) ∨ ((∀ x y e, s_item T n a x y e → ¬ (x < m ∧ y ≤ 20)) ∧ ∃ d' b' a', m_X6_readsItem N T n d b (a + 1) 104 = some (0, d', b', a')) := by
  have so := s_num_or T n (a + 1) ht (by omega)
  have d0 : z_up d 2 1 0 = d 0 := rfl
  have d1 : z_up d 2 1 1 = d 1 := rfl
  obtain ⟨b1, e1, i1⟩ := p6_number N T n (a + 1) 0 (m - 1) 44 ht (by omega) (by omega)
  rw [m_X6_readsItem, if_pos (by decide), z_chk_pos (by omega), if_pos rfl, z_chk_pos (by omega), z_chk_pos (by omega), d0, d1, hm, z_chk_pos (by omega), z_chk_pos (by omega), e1]
  by_cases c1 : s_fig T n (a + 1) ∧ ((s_num T n (a + 1)).2 < n ∧ T (s_num T n (a + 1)).2 = 44) ∧ 0 ≤ (s_num T n (a + 1)).1 ∧ (s_num T n (a + 1)).1 ≤ m - 1
  · have g := so.2.2.resolve_right (fun z => z.1 c1.1)
    obtain ⟨b2, e2, i2⟩ := p6_number N T n ((s_num T n (a + 1)).2 + 1) 0 20 59 ht (by omega) (by omega)
    have so2 := s_num_or T n ((s_num T n (a + 1)).2 + 1) ht (by omega)
    rw [if_pos c1, p_b2, if_pos (by omega), if_pos (by decide), p_b1, e2]
    by_cases c2 : s_fig T n ((s_num T n (a + 1)).2 + 1) ∧ ((s_num T n ((s_num T n (a + 1)).2 + 1)).2 < n ∧ T (s_num T n ((s_num T n (a + 1)).2 + 1)).2 = 59) ∧ 0 ≤ (s_num T n ((s_num T n (a + 1)).2 + 1)).1 ∧ (s_num T n ((s_num T n (a + 1)).2 + 1)).1 ≤ 20
    · rw [if_pos c2, p_b2, p_b2, if_pos (by omega), if_neg (by decide), z_chk_pos (by omega), z_chk_pos (by omega)]
      exact Or.inl ⟨_, _, _, ⟨c1.1, rfl, c1.2.1, c2.1, rfl, c2.2.1, rfl⟩, by omega, c2.2.2.2, rfl⟩
    · rw [if_neg c2, p_b2, p_b2, if_neg (by omega)]
      refine Or.inr ⟨fun x y e hi z => c2 ?_, _, _, _, rfl⟩
      have hb := s_item_b ht (by omega) hi
      obtain ⟨h1, h2, h3, h4, h5, h6, h7⟩ := hi
      exact ⟨h4, h6, by omega, by omega⟩
  · rw [if_neg c1, p_b2, if_neg (by omega), p_b2, if_neg (by omega)]
    refine Or.inr ⟨fun x y e hi z => c1 ?_, _, _, _, rfl⟩
    have hb := s_item_b ht (by omega) hi
    obtain ⟨h1, h2, h3, h4, h5, h6, h7⟩ := hi
    exact ⟨h1, h3, by omega, by omega⟩
theorem p6_item107 (N : Nat) (T d b : Int → Int) (n a m : Int) (ht : s_tx T n) (ha : 0 ≤ a ∧ a ≤ 400) (hm : d 0 * d 1 = m) (hm2 : 4 ≤ m ∧ m ≤ 36) : (∃ x y e, s_item T n a x y e ∧ x < m ∧ y ≤ 4 ∧ m_X6_readsItem N T n d b (a + 1) 107 = some (1, z_up (z_up d 2 1) (3 + x) y, b, e)) ∨ ((∀ x y e, s_item T n a x y e → ¬ (x < m ∧ y ≤ 4)) ∧ ∃ d' b' a', m_X6_readsItem N T n d b (a + 1) 107 = some (0, d', b', a')) := by
  have so := s_num_or T n (a + 1) ht (by omega)
  have d0 : z_up d 2 1 0 = d 0 := rfl
  have d1 : z_up d 2 1 1 = d 1 := rfl
  obtain ⟨b1, e1, i1⟩ := p6_number N T n (a + 1) 0 (m - 1) 44 ht (by omega) (by omega)
  rw [m_X6_readsItem, if_pos (by decide), z_chk_pos (by omega), if_neg (by decide), if_pos rfl, z_chk_pos (by omega), z_chk_pos (by omega), d0, d1, hm, z_chk_pos (by omega), z_chk_pos (by omega), e1]
  by_cases c1 : s_fig T n (a + 1) ∧ ((s_num T n (a + 1)).2 < n ∧ T (s_num T n (a + 1)).2 = 44) ∧ 0 ≤ (s_num T n (a + 1)).1 ∧ (s_num T n (a + 1)).1 ≤ m - 1
  · have g := so.2.2.resolve_right (fun z => z.1 c1.1)
    obtain ⟨b2, e2, i2⟩ := p6_number N T n ((s_num T n (a + 1)).2 + 1) 0 4 59 ht (by omega) (by omega)
    have so2 := s_num_or T n ((s_num T n (a + 1)).2 + 1) ht (by omega)
    rw [if_pos c1, p_b2, if_pos (by omega), if_neg (by decide), p_b1, e2]
    by_cases c2 : s_fig T n ((s_num T n (a + 1)).2 + 1) ∧ ((s_num T n ((s_num T n (a + 1)).2 + 1)).2 < n ∧ T (s_num T n ((s_num T n (a + 1)).2 + 1)).2 = 59) ∧ 0 ≤ (s_num T n ((s_num T n (a + 1)).2 + 1)).1 ∧ (s_num T n ((s_num T n (a + 1)).2 + 1)).1 ≤ 4
    · rw [if_pos c2, p_b2, p_b2, if_pos (by omega), if_pos (by decide), if_neg (by decide), z_chk_pos (by omega), z_chk_pos (by omega)]
      exact Or.inl ⟨_, _, _, ⟨c1.1, rfl, c1.2.1, c2.1, rfl, c2.2.1, rfl⟩, by omega, c2.2.2.2, rfl⟩
    · rw [if_neg c2, p_b2, p_b2, if_neg (by omega)]
      refine Or.inr ⟨fun x y e hi z => c2 ?_, _, _, _, rfl⟩
      have hb := s_item_b ht (by omega) hi
      obtain ⟨h1, h2, h3, h4, h5, h6, h7⟩ := hi
      exact ⟨h4, h6, by omega, by omega⟩
  · rw [if_neg c1, p_b2, if_neg (by omega), p_b2, if_neg (by omega)]
    refine Or.inr ⟨fun x y e hi z => c1 ?_, _, _, _, rfl⟩
    have hb := s_item_b ht (by omega) hi
    obtain ⟨h1, h2, h3, h4, h5, h6, h7⟩ := hi
    exact ⟨h1, h3, by omega, by omega⟩
theorem p6_item119 (N : Nat) (T d b : Int → Int) (n a m : Int) (ht : s_tx T n) (ha : 0 ≤ a ∧ a ≤ 400) (hm : d 0 * d 1 = m) (hm2 : 4 ≤ m ∧ m ≤ 36) : (∃ x y e, s_item T n a x y e ∧ x < m ∧ y ≤ 20 ∧ m_X6_readsItem N T n d b (a + 1) 119 = some (1, z_up d 2 1, z_up b x y, e)) ∨ ((∀ x y e, s_item T n a x y e → ¬ (x < m ∧ y ≤ 20)) ∧ ∃ d' b' a', m_X6_readsItem N T n d b (a + 1) 119 = some (0, d', b', a')) := by
  have so := s_num_or T n (a + 1) ht (by omega)
  have d0 : z_up d 2 1 0 = d 0 := rfl
  have d1 : z_up d 2 1 1 = d 1 := rfl
  obtain ⟨b1, e1, i1⟩ := p6_number N T n (a + 1) 0 (m - 1) 44 ht (by omega) (by omega)
  rw [m_X6_readsItem, if_pos (by decide), z_chk_pos (by omega), if_neg (by decide), if_neg (by decide), if_pos rfl, z_chk_pos (by omega), z_chk_pos (by omega), d0, d1, hm, z_chk_pos (by omega), z_chk_pos (by omega), e1]
  by_cases c1 : s_fig T n (a + 1) ∧ ((s_num T n (a + 1)).2 < n ∧ T (s_num T n (a + 1)).2 = 44) ∧ 0 ≤ (s_num T n (a + 1)).1 ∧ (s_num T n (a + 1)).1 ≤ m - 1
  · have g := so.2.2.resolve_right (fun z => z.1 c1.1)
    obtain ⟨b2, e2, i2⟩ := p6_number N T n ((s_num T n (a + 1)).2 + 1) 0 20 59 ht (by omega) (by omega)
    have so2 := s_num_or T n ((s_num T n (a + 1)).2 + 1) ht (by omega)
    rw [if_pos c1, p_b2, if_pos (by omega), if_pos (by decide), p_b1, e2]
    by_cases c2 : s_fig T n ((s_num T n (a + 1)).2 + 1) ∧ ((s_num T n ((s_num T n (a + 1)).2 + 1)).2 < n ∧ T (s_num T n ((s_num T n (a + 1)).2 + 1)).2 = 59) ∧ 0 ≤ (s_num T n ((s_num T n (a + 1)).2 + 1)).1 ∧ (s_num T n ((s_num T n (a + 1)).2 + 1)).1 ≤ 20
    · rw [if_pos c2, p_b2, p_b2, if_pos (by omega), if_pos (by decide), if_pos (by decide), z_chk_pos (by omega)]
      exact Or.inl ⟨_, _, _, ⟨c1.1, rfl, c1.2.1, c2.1, rfl, c2.2.1, rfl⟩, by omega, c2.2.2.2, rfl⟩
    · rw [if_neg c2, p_b2, p_b2, if_neg (by omega)]
      refine Or.inr ⟨fun x y e hi z => c2 ?_, _, _, _, rfl⟩
      have hb := s_item_b ht (by omega) hi
      obtain ⟨h1, h2, h3, h4, h5, h6, h7⟩ := hi
      exact ⟨h4, h6, by omega, by omega⟩
  · rw [if_neg c1, p_b2, if_neg (by omega), p_b2, if_neg (by omega)]
    refine Or.inr ⟨fun x y e hi z => c1 ?_, _, _, _, rfl⟩
    have hb := s_item_b ht (by omega) hi
    obtain ⟨h1, h2, h3, h4, h5, h6, h7⟩ := hi
    exact ⟨h1, h3, by omega, by omega⟩
theorem p6_item0 (N : Nat) (T d b : Int → Int) (n a l : Int) (h1 : l ≠ 115) (h2 : l ≠ 104) (h3 : l ≠ 107) (h4 : l ≠ 119) : m_X6_readsItem N T n d b (a + 1) l = some (0, z_up d 2 1, b, a + 1) := by
  rw [m_X6_readsItem, if_pos h1, z_chk_pos (by omega), if_neg h2, if_neg h3, if_neg h4]
theorem p_readA (N : Nat) (T K h D be : Int → Int) (bb : Int → Int64) (n a R C m hrs os v : Int) (f : Nat) (ht : s_tx T n) (ha : 0 ≤ a ∧ a < n) (hv : 0 ≤ v ∧ v < 200) (hi : ∀ x y e, ¬ s_item T n a x y e) : ∃ o, m_X3_readInto_l1 N n be bb hrs T (f + 1) os v a R C m K h D = some (a, o) := by
  have nn := ht.1
  have so := s_num_or T n (a + 1) ht (by omega)
  have en : ∀ c, 0 ≤ c → c ≤ 900 → m_X3_nextNumber N T n c = some ((s_num T n c).1, (s_num T n c).2) := fun c p q => p_nextNumber N T n c ht ⟨p, q⟩
  rw [m_X3_readInto_l1, if_neg (by omega), if_neg (by omega), m_X3_nextLetter, p_peek N T n a ht ha.1, p_b1, z_chk_pos (by omega), p_b2, if_pos ha.2, en (a + 1) (by omega) (by omega), p_b2, p_skip N T n _ 44 ht (by omega) (by omega)]
  by_cases c1 : (s_num T n (a + 1)).2 < n ∧ T (s_num T n (a + 1)).2 = 44
  · have so2 := s_num_or T n ((s_num T n (a + 1)).2 + 1) ht (by omega)
    rw [if_pos c1, p_b2, en _ (by omega) (by omega), p_b2, p_skip N T n _ 59 ht (by omega) (by omega)]
    by_cases c2 : (s_num T n ((s_num T n (a + 1)).2 + 1)).2 < n ∧ T (s_num T n ((s_num T n (a + 1)).2 + 1)).2 = 59
    · rw [if_pos c2, p_b2]
      by_cases k1 : s_fig T n (a + 1)
      · have g1 := so.2.2.resolve_right (fun z => z.1 k1)
        by_cases k2 : s_fig T n ((s_num T n (a + 1)).2 + 1)
        · exact absurd ⟨k1, rfl, c1, k2, rfl, c2, rfl⟩ (hi _ _ _)
        · have g2 := so2.2.2.resolve_left (fun z => k2 z.1)
          have g3 : (s_num T n ((s_num T n (a + 1)).2 + 1)).1 = -4 := by rw [g2.2]
          rw [if_neg (by omega), if_neg (by decide), if_pos (by omega)]
          exact ⟨_, rfl⟩
      · have g1 := so.2.2.resolve_left (fun z => k1 z.1)
        have g3 : (s_num T n (a + 1)).1 = -4 := by rw [g1.2]
        rw [if_pos (by omega)]
        exact ⟨_, rfl⟩
    · rw [if_neg c2, p_b2]
      by_cases k1 : (s_num T n (a + 1)).1 < 0
      · rw [if_pos k1]
        exact ⟨_, rfl⟩
      · rw [if_neg k1, if_neg (by decide)]
        by_cases k2 : (s_num T n ((s_num T n (a + 1)).2 + 1)).1 < 0
        · rw [if_pos k2]
          exact ⟨_, rfl⟩
        · rw [if_neg k2, if_neg (by decide)]
          exact ⟨_, rfl⟩
  · have so2 := s_num_or T n (s_num T n (a + 1)).2 ht (by omega)
    rw [if_neg c1, p_b2, en _ (by omega) (by omega), p_b2, p_skip N T n _ 59 ht (by omega) (by omega)]
    have two : ∀ (w : Option (Int × Int × Int × Int × Int × (Int → Int) × (Int → Int) × (Int → Int64) × (Int → Int) × (Int → Int) × Int)) (z : Int), ∃ o, (if (s_num T n (a + 1)).1 < 0 then (some (a, z, R, C, m, K, be, bb, h, D, hrs)) else (if (0 : Int) = 0 then (some (a, z, R, C, m, K, be, bb, h, D, hrs)) else w)) = some (a, o) := fun w z => by
      by_cases k1 : (s_num T n (a + 1)).1 < 0
      · rw [if_pos k1]; exact ⟨_, rfl⟩
      · rw [if_neg k1, if_pos rfl]; exact ⟨_, rfl⟩
    by_cases c2 : (s_num T n (s_num T n (a + 1)).2).2 < n ∧ T (s_num T n (s_num T n (a + 1)).2).2 = 59
    · rw [if_pos c2, p_b2]
      exact two _ _
    · rw [if_neg c2, p_b2]
      exact two _ _
theorem p_readB1 (N : Nat) (T K h D be : Int → Int) (bb : Int → Int64) (n a R C m hrs os v : Int) (f : Nat) (ht : s_tx T n) (ha : 0 ≤ a ∧ a < n) (hv : 0 ≤ v ∧ v < 200) (x y e : Int) (hi : s_item T n a x y e) (hl : T a = 115) (ho : os = 1) (hs : (2 ≤ x ∧ x ≤ 6) ∧ 2 ≤ y ∧ y ≤ 6) : m_X3_readInto_l1 N n be bb hrs T (f + 1) os v a R C m K h D = m_X3_readInto_l1 N n be bb hrs T f 1 (v + 1) e x y (x * y) K h D := by
  have nn := ht.1
  have so := s_num_or T n (a + 1) ht (by omega)
  have en : ∀ c, 0 ≤ c → c ≤ 900 → m_X3_nextNumber N T n c = some ((s_num T n c).1, (s_num T n c).2) := fun c p q => p_nextNumber N T n c ht ⟨p, q⟩
  rw [m_X3_readInto_l1, if_neg (by omega), if_neg (by omega), m_X3_nextLetter, p_peek N T n a ht ha.1, p_b1, z_chk_pos (by omega), p_b2, if_pos ha.2, en (a + 1) (by omega) (by omega), p_b2, p_skip N T n _ 44 ht (by omega) (by omega)]
  have so2 := s_num_or T n ((s_num T n (a + 1)).2 + 1) ht (by omega)
  obtain ⟨h1, h2, h3, h4, h5, h6, h7⟩ := hi
  have g1 := so.2.2.resolve_right (fun z => z.1 h1)
  have g2 := so2.2.2.resolve_right (fun z => z.1 h4)
  rw [if_pos h3, p_b2, en _ (by omega) (by omega), p_b2, p_skip N T n _ 59 ht (by omega) (by omega), if_pos h6, p_b2, if_neg (by omega), if_neg (by decide), if_neg (by omega), if_pos (by decide), ← h2, ← h5, ← h7]
  rw [hl, if_neg (by decide), if_pos (by omega), if_neg (by decide), p_shape, if_pos hs, p_b4, if_pos (by decide), if_neg (by omega), if_neg (by decide), z_chk_pos (by omega)]
theorem p_readB2 (N : Nat) (T K h D be : Int → Int) (bb : Int → Int64) (n a R C m hrs os v : Int) (f : Nat) (ht : s_tx T n) (ha : 0 ≤ a ∧ a < n) (hv : 0 ≤ v ∧ v < 200) (x y e : Int) (hi : s_item T n a x y e) (hl : T a = 115) (hs : ¬ (os ≠ 0 ∧ (2 ≤ x ∧ x ≤ 6) ∧ 2 ≤ y ∧ y ≤ 6)) : ∃ o, m_X3_readInto_l1 N n be bb hrs T (f + 1) os v a R C m K h D = some (a, o) := by
  have nn := ht.1
  have so := s_num_or T n (a + 1) ht (by omega)
  have en : ∀ c, 0 ≤ c → c ≤ 900 → m_X3_nextNumber N T n c = some ((s_num T n c).1, (s_num T n c).2) := fun c p q => p_nextNumber N T n c ht ⟨p, q⟩
  rw [m_X3_readInto_l1, if_neg (by omega), if_neg (by omega), m_X3_nextLetter, p_peek N T n a ht ha.1, p_b1, z_chk_pos (by omega), p_b2, if_pos ha.2, en (a + 1) (by omega) (by omega), p_b2, p_skip N T n _ 44 ht (by omega) (by omega)]
  have so2 := s_num_or T n ((s_num T n (a + 1)).2 + 1) ht (by omega)
  obtain ⟨h1, h2, h3, h4, h5, h6, h7⟩ := hi
  have g1 := so.2.2.resolve_right (fun z => z.1 h1)
  have g2 := so2.2.2.resolve_right (fun z => z.1 h4)
  rw [if_pos h3, p_b2, en _ (by omega) (by omega), p_b2, p_skip N T n _ 59 ht (by omega) (by omega), if_pos h6, p_b2, if_neg (by omega), if_neg (by decide), if_neg (by omega), if_pos (by decide), ← h2, ← h5, ← h7]
  rw [hl, if_neg (by decide)]
  by_cases k : os ≠ 0
  · rw [if_pos k, if_neg (by decide), p_shape, if_neg (fun z => hs ⟨k, z⟩), p_b4, if_neg (by decide)]
    exact ⟨_, rfl⟩
  · rw [if_neg k]
    exact ⟨_, rfl⟩
theorem p_readB3 (N : Nat) (T K h D be : Int → Int) (bb : Int → Int64) (n a R C m hrs os v : Int) (f : Nat) (ht : s_tx T n) (ha : 0 ≤ a ∧ a < n) (hv : 0 ≤ v ∧ v < 200) (x y e : Int) (hi : s_item T n a x y e) (hl : T a ≠ 115) (K' h' D' : Int → Int) (hs : m_X3_tellCell N m K h D (T a) x y = some (1, K', h', D')) : m_X3_readInto_l1 N n be bb hrs T (f + 1) os v a R C m K h D = m_X3_readInto_l1 N n be bb hrs T f 0 (v + 1) e R C m K' h' D' := by
  have nn := ht.1
  have so := s_num_or T n (a + 1) ht (by omega)
  have en : ∀ c, 0 ≤ c → c ≤ 900 → m_X3_nextNumber N T n c = some ((s_num T n c).1, (s_num T n c).2) := fun c p q => p_nextNumber N T n c ht ⟨p, q⟩
  rw [m_X3_readInto_l1, if_neg (by omega), if_neg (by omega), m_X3_nextLetter, p_peek N T n a ht ha.1, p_b1, z_chk_pos (by omega), p_b2, if_pos ha.2, en (a + 1) (by omega) (by omega), p_b2, p_skip N T n _ 44 ht (by omega) (by omega)]
  have so2 := s_num_or T n ((s_num T n (a + 1)).2 + 1) ht (by omega)
  obtain ⟨h1, h2, h3, h4, h5, h6, h7⟩ := hi
  have g1 := so.2.2.resolve_right (fun z => z.1 h1)
  have g2 := so2.2.2.resolve_right (fun z => z.1 h4)
  rw [if_pos h3, p_b2, en _ (by omega) (by omega), p_b2, p_skip N T n _ 59 ht (by omega) (by omega), if_pos h6, p_b2, if_neg (by omega), if_neg (by decide), if_neg (by omega), if_pos (by decide), ← h2, ← h5, ← h7]
  rw [if_pos hl, hs, p_b4, if_pos (by decide), if_pos hl]
  by_cases k : os = 0
  · rw [if_pos k, z_chk_pos (by omega)]
  · rw [if_neg k, if_pos hl, z_chk_pos (by omega)]
theorem p_readB4 (N : Nat) (T K h D be : Int → Int) (bb : Int → Int64) (n a R C m hrs os v : Int) (f : Nat) (ht : s_tx T n) (ha : 0 ≤ a ∧ a < n) (hv : 0 ≤ v ∧ v < 200) (x y e : Int) (hi : s_item T n a x y e) (hl : T a ≠ 115) (K' h' D' : Int → Int) (hs : m_X3_tellCell N m K h D (T a) x y = some (0, K', h', D')) : ∃ o, m_X3_readInto_l1 N n be bb hrs T (f + 1) os v a R C m K h D = some (a, o) := by
  have nn := ht.1
  have so := s_num_or T n (a + 1) ht (by omega)
  have en : ∀ c, 0 ≤ c → c ≤ 900 → m_X3_nextNumber N T n c = some ((s_num T n c).1, (s_num T n c).2) := fun c p q => p_nextNumber N T n c ht ⟨p, q⟩
  rw [m_X3_readInto_l1, if_neg (by omega), if_neg (by omega), m_X3_nextLetter, p_peek N T n a ht ha.1, p_b1, z_chk_pos (by omega), p_b2, if_pos ha.2, en (a + 1) (by omega) (by omega), p_b2, p_skip N T n _ 44 ht (by omega) (by omega)]
  have so2 := s_num_or T n ((s_num T n (a + 1)).2 + 1) ht (by omega)
  obtain ⟨h1, h2, h3, h4, h5, h6, h7⟩ := hi
  have g1 := so.2.2.resolve_right (fun z => z.1 h1)
  have g2 := so2.2.2.resolve_right (fun z => z.1 h4)
  rw [if_pos h3, p_b2, en _ (by omega) (by omega), p_b2, p_skip N T n _ 59 ht (by omega) (by omega), if_pos h6, p_b2, if_neg (by omega), if_neg (by decide), if_neg (by omega), if_pos (by decide), ← h2, ← h5, ← h7]
  rw [if_pos hl, hs, p_b4, if_neg (by decide)]
  exact ⟨_, rfl⟩
