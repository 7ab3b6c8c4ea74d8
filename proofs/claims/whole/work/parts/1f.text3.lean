/-! the text, whole -/
theorem s_prod_b {x y : Int} (hx : 2 ≤ x ∧ x ≤ 6) (hy : 2 ≤ y ∧ y ≤ 6) : s_dim x y := ⟨by omega, by omega⟩
theorem p_read_step (N : Nat) (T K h D be d b : Int → Int) (bb : Int → Int64) (n a R C hrs os v : Int) (f : Nat) (ht : s_tx T n) (ha : 0 ≤ a ∧ a < n) (hv : 0 ≤ v ∧ v ≤ a) (hd : s_dr R C os K h D d b) : (∃ o d' b' a', m_X3_readInto_l1 N n be bb hrs T (f + 1) os v a R C (R * C) K h D = some (a, o) ∧ m_X6_readsItem N T n d b (a + 1) (T a) = some (0, d', b', a')) ∨ (∃ os' R' C' K' h' D' d' b' e, m_X3_readInto_l1 N n be bb hrs T (f + 1) os v a R C (R * C) K h D = m_X3_readInto_l1 N n be bb hrs T f os' (v + 1) e R' C' (R' * C') K' h' D' ∧ m_X6_readsItem N T n d b (a + 1) (T a) = some (1, d', b', e) ∧ s_dr R' C' os' K' h' D' d' b' ∧ a < e ∧ e ≤ n) := by
  have nn := ht.1
  have hv2 : 0 ≤ v ∧ v < 200 := by omega
  obtain ⟨g1, g2, g3, g4, g5, g6, g7⟩ := hd
  have hn := s_dim_n g1
  have hm : d 0 * d 1 = R * C := by rw [g2, g3]
  by_cases l1 : T a = 115
  · rw [l1]
    rcases p6_itemS N T d b n a ht (by omega) with ⟨x, y, e, hi, hx, hy, hd2, er⟩ | ⟨hno, d', b', a', er⟩
    · have hos : os = 1 := by
        rcases g4 with q | q
        · exact q.1
        · omega
      have hD0 : ∀ i, 0 ≤ i → i < 36 → D i = 0 := by
        rcases g4 with q | q
        · exact q.2.2
        · omega
      have ib := s_item_b ht ha.1 hi
      refine Or.inr ⟨1, x, y, K, h, D, _, b, e, p_readB1 N T K h D be bb n a R C (R * C) hrs os v f ht ha hv2 x y e hi l1 hos ⟨hx, hy⟩, er, ⟨s_prod_b hx hy, rfl, rfl, Or.inl ⟨rfl, hd2, hD0⟩, fun i p q => ?_, g6, fun _ => g7 hos⟩, by omega, by omega⟩
      obtain ⟨k1, k2, k3, k4, k5, k6, k7⟩ := g5 i p q
      refine ⟨?_, k2, k3, k4, k5, k6, fun _ => ⟨hD0 i p q, g7 hos i p q⟩⟩
      unfold z_up
      rw [if_neg (by omega), if_neg (by omega)]
      exact k1
    · by_cases he : ∃ x y e, s_item T n a x y e
      · obtain ⟨x, y, e, hi⟩ := he
        obtain ⟨o, eo⟩ := p_readB2 N T K h D be bb n a R C (R * C) hrs os v f ht ha hv2 x y e hi l1 (fun z => hno x y e hi ⟨z.2.1, z.2.2, by
          rcases g4 with q | q
          · exact q.2.1
          · exact absurd q.1 z.1⟩)
        exact Or.inl ⟨o, d', b', a', eo, er⟩
      · obtain ⟨o, eo⟩ := p_readA N T K h D be bb n a R C (R * C) hrs os v f ht ha hv2 (fun x y e hi => he ⟨x, y, e, hi⟩)
        exact Or.inl ⟨o, d', b', a', eo, er⟩
  · have fail : (∀ x y e, s_item T n a x y e → ¬ ((T a = 104 ∧ x < R * C ∧ y ≤ 20) ∨ (T a = 107 ∧ x < R * C ∧ y ≤ 4) ∨ (T a = 119 ∧ x < R * C ∧ y ≤ 20))) → ∃ o, m_X3_readInto_l1 N n be bb hrs T (f + 1) os v a R C (R * C) K h D = some (a, o) := fun hno => by
      by_cases he : ∃ x y e, s_item T n a x y e
      · obtain ⟨x, y, e, hi⟩ := he
        have ib := s_item_b ht ha.1 hi
        have no := hno x y e hi
        exact p_readB4 N T K h D be bb n a R C (R * C) hrs os v f ht ha hv2 x y e hi l1 K h D (by rw [p_tell N _ K h D _ x y (by omega) (by omega) (by omega), if_neg (fun z => no (Or.inl z)), if_neg (fun z => no (Or.inr (Or.inl z))), if_neg (fun z => no (Or.inr (Or.inr z)))])
      · exact p_readA N T K h D be bb n a R C (R * C) hrs os v f ht ha hv2 (fun x y e hi => he ⟨x, y, e, hi⟩)
    by_cases l2 : T a = 104
    · rw [l2]
      rcases p6_item104 N T d b n a _ ht (by omega) hm (by omega) with ⟨x, y, e, hi, hx, hy, er⟩ | ⟨hno, d', b', a', er⟩
      · have ib := s_item_b ht ha.1 hi
        refine Or.inr ⟨0, R, C, K, z_up h x y, D, _, _, e, p_readB3 N T K h D be bb n a R C (R * C) hrs os v f ht ha hv2 x y e hi l1 K (z_up h x y) D (by rw [p_tell N _ K h D _ x y (by omega) (by omega) (by omega), if_pos ⟨l2, hx, hy⟩]), er, ⟨g1, g2, g3, Or.inr ⟨rfl, rfl⟩, fun i p q => ?_, ?_, fun z => by omega⟩, by omega, by omega⟩
        · obtain ⟨k1, k2, k3, k4, k5, k6, k7⟩ := g5 i p q
          unfold z_up
          rw [if_neg (by omega), if_neg (by omega)]
          by_cases w : i = x
          · rw [if_pos (by omega), if_pos w]
            exact ⟨k1, k2, rfl, k4, by omega, k6, k7⟩
          · rw [if_neg (by omega), if_neg w]
            exact ⟨k1, k2, k3, k4, k5, k6, k7⟩
        · unfold z_up
          rw [if_neg (by omega)]
          exact g6
      · obtain ⟨o, eo⟩ := fail (fun x y e hi z => hno x y e hi (by omega))
        exact Or.inl ⟨o, d', b', a', eo, er⟩
    · by_cases l3 : T a = 107
      · rw [l3]
        rcases p6_item107 N T d b n a _ ht (by omega) hm (by omega) with ⟨x, y, e, hi, hx, hy, er⟩ | ⟨hno, d', b', a', er⟩
        · have ib := s_item_b ht ha.1 hi
          refine Or.inr ⟨0, R, C, z_up K x y, h, D, _, _, e, p_readB3 N T K h D be bb n a R C (R * C) hrs os v f ht ha hv2 x y e hi l1 (z_up K x y) h D (by rw [p_tell N _ K h D _ x y (by omega) (by omega) (by omega), if_neg (by omega), if_pos ⟨l3, hx, hy⟩]), er, ⟨g1, ?_, ?_, Or.inr ⟨rfl, ?_⟩, fun i p q => ?_, g6, fun z => by omega⟩, by omega, by omega⟩
          · unfold z_up
            rw [if_neg (by omega), if_neg (by omega)]
            exact g2
          · unfold z_up
            rw [if_neg (by omega), if_neg (by omega)]
            exact g3
          · unfold z_up
            rw [if_neg (by omega), if_pos rfl]
          · obtain ⟨k1, k2, k3, k4, k5, k6, k7⟩ := g5 i p q
            unfold z_up
            by_cases w : i = x
            · rw [if_pos (by omega), if_pos w]
              exact ⟨rfl, k2, k3, by omega, k5, k6, fun u => by omega⟩
            · rw [if_neg (by omega), if_neg (by omega), if_neg w]
              exact ⟨k1, k2, k3, k4, k5, k6, k7⟩
        · obtain ⟨o, eo⟩ := fail (fun x y e hi z => hno x y e hi (by omega))
          exact Or.inl ⟨o, d', b', a', eo, er⟩
      · by_cases l4 : T a = 119
        · rw [l4]
          rcases p6_item119 N T d b n a _ ht (by omega) hm (by omega) with ⟨x, y, e, hi, hx, hy, er⟩ | ⟨hno, d', b', a', er⟩
          · have ib := s_item_b ht ha.1 hi
            refine Or.inr ⟨0, R, C, K, h, z_up D x y, _, _, e, p_readB3 N T K h D be bb n a R C (R * C) hrs os v f ht ha hv2 x y e hi l1 K h (z_up D x y) (by rw [p_tell N _ K h D _ x y (by omega) (by omega) (by omega), if_neg (by omega), if_neg (by omega), if_pos ⟨l4, hx, hy⟩]), er, ⟨g1, g2, g3, Or.inr ⟨rfl, rfl⟩, fun i p q => ?_, ?_, fun z => by omega⟩, by omega, by omega⟩
            · obtain ⟨k1, k2, k3, k4, k5, k6, k7⟩ := g5 i p q
              unfold z_up
              rw [if_neg (show ¬(3 + i = 2) by omega), if_neg (show ¬(36 + i = x) by omega)]
              by_cases w : i = x
              · rw [if_pos w, if_pos w]
                exact ⟨k1, rfl, k3, k4, k5, by omega, fun u => by omega⟩
              · rw [if_neg w, if_neg w]
                exact ⟨k1, k2, k3, k4, k5, k6, k7⟩
            · unfold z_up
              rw [if_neg (by omega)]
              exact g6
          · obtain ⟨o, eo⟩ := fail (fun x y e hi z => hno x y e hi (by omega))
            exact Or.inl ⟨o, d', b', a', eo, er⟩
        · obtain ⟨o, eo⟩ := fail (fun x y e hi z => by omega)
          exact Or.inl ⟨o, _, _, _, eo, p6_item0 N T d b n a _ l1 l2 l3 l4⟩
def s_fz (K D : Int → Int) (x : Int) : Int := if K x ≠ 3 ∧ K x ≠ 2 then D x else 0
theorem p_finish_l1 (N : Nat) (n : Int) (K D : Int → Int) (hn : 0 ≤ n ∧ n ≤ 36) : ∀ (f : Nat) (x : Int), 0 ≤ x → x ≤ n → (n - x).toNat < f → m_X3_finish_l1 N n K f x (s_upto (s_fz K D) D x) = some (s_upto (s_fz K D) D n) := by
  intro f
  induction f with
  | zero => intro x _ _ hf; omega
  | succ f ih =>
    intro x g0 g1 hf
    rw [m_X3_finish_l1]
    by_cases hc : n ≤ x
    · rw [if_pos hc]
      have : x = n := by omega
      subst this
      rfl
    · rw [if_neg hc, if_neg (by omega)]
      by_cases ho : K x ≠ 3 ∧ K x ≠ 2
      · have e0 : m_X0_takesRain N n K x = some 1 := by rw [p_takesRain, if_pos ⟨by omega, by omega, by omega, ho.1, ho.2⟩]
        rw [e0, p_b1, if_pos (by decide), z_chk_pos (by omega), s_upto_skip _ _ _ g0 (by unfold s_fz; rw [if_pos ho])]
        exact ih (x + 1) (by omega) (by omega) (by omega)
      · have e0 : m_X0_takesRain N n K x = some 0 := by rw [p_takesRain, if_neg (fun z => ho ⟨z.2.2.2.1, z.2.2.2.2⟩)]
        rw [e0, p_b1, if_neg (by decide), z_chk_pos (by omega), z_chk_pos (by omega), s_upto_up _ _ _ _ g0 (by unfold s_fz; rw [if_neg ho])]
        exact ih (x + 1) (by omega) (by omega) (by omega)
theorem p_finish (N : Nat) (hN : 1001 ≤ N) (R C : Int) (K D be : Int → Int) (bb : Int → Int64) (hd : s_dim R C) : ∃ be' bb', m_X3_finish N R C (R * C) K be bb D = some (be', bb', s_upto (s_fz K D) D (R * C)) ∧ s_gb (R * C) (s_nb R C K) be' bb' := by
  have hn := s_dim_n hd
  obtain ⟨be', bb', e, hg⟩ := p_link N R C K hd hN be bb
  have e2 := p_finish_l1 N (R * C) K D (by omega) N 0 (by omega) (by omega) (by omega)
  rw [s_upto_0] at e2
  exact ⟨be', bb', by rw [m_X3_finish, e, p_b2, e2, p_b1], hg⟩
/-- both read the text alike -/
def s_rdg (o : Int × Int × Int × Int × (Int → Int) × (Int → Int) × (Int → Int64) × (Int → Int) × (Int → Int) × Int) (d b : Int → Int) (hrs : Int) : Prop := ∃ at' R C os K h D be bb, o = (at', R, C, R * C, K, be, bb, h, s_upto (s_fz K D) D (R * C), hrs) ∧ s_dr R C os K h D d b ∧ s_gb (R * C) (s_nb R C K) be bb
theorem p_read_l1 (N : Nat) (hN : 1001 ≤ N) (T be : Int → Int) (bb : Int → Int64) (n hrs : Int) (ht : s_tx T n) : ∀ (f : Nat) (a v os R C : Int) (K h D d b : Int → Int), 0 ≤ a → a ≤ n → (n - a).toNat < f → 0 ≤ v → v ≤ a → s_dr R C os K h D d b → ∃ r o d' b' a', m_X3_readInto_l1 N n be bb hrs T f os v a R C (R * C) K h D = some (r, o) ∧ m_X6_readsAll_l1 N n T f d b a = some (r, d', b', a') ∧ (0 ≤ r ∧ r ≤ 200 ∨ (r = -4 ∧ s_rdg o d' b' hrs)) := by
  have nn := ht.1
  intro f
  induction f with
  | zero => intro a v os R C K h D d b _ _ hf; omega
  | succ f ih =>
    intro a v os R C K h D d b g0 g1 hf g2 g3 hd
    by_cases hc : n ≤ a
    · obtain ⟨be', bb', e, hg⟩ := p_finish N hN R C K D be bb hd.1
      refine ⟨-4, _, d, b, a, ?_, ?_, Or.inr ⟨rfl, a, R, C, os, K, h, D, be', bb', rfl, hd, hg⟩⟩
      · rw [m_X3_readInto_l1, if_pos hc, e, p_b3]
      · rw [m_X6_readsAll_l1, if_pos hc]
    · have er0 : ∀ w : Int × (Int → Int) × (Int → Int) × Int, m_X6_readsItem N T n d b (a + 1) (T a) = some w → m_X6_readsAll_l1 N n T (f + 1) d b a = if w.1 ≠ 0 then m_X6_readsAll_l1 N n T f w.2.1 w.2.2.1 w.2.2.2 else some (a, w.2.1, w.2.2.1, w.2.2.2) := fun w e => by
        rw [m_X6_readsAll_l1, if_neg hc, z_chk_pos (by omega), z_chk_pos (by omega), e]
        rfl
      rcases p_read_step N T K h D be d b bb n a R C hrs os v f ht (by omega) (by omega) hd with ⟨o, d', b', a', e1, e2⟩ | ⟨os', R', C', K', h', D', d', b', e, e1, e2, hd', i1, i2⟩
      · refine ⟨a, o, d', b', a', e1, ?_, Or.inl (by omega)⟩
        rw [er0 _ e2]
        exact if_neg (show ¬((0 : Int) ≠ 0) by decide)
      · obtain ⟨r, o, d2, b2, a2, w1, w2, w3⟩ := ih e (v + 1) os' R' C' K' h' D' d' b' (by omega) i2 (by omega) (by omega) (by omega) hd'
        refine ⟨r, o, d2, b2, a2, by rw [e1]; exact w1, ?_, w3⟩
        rw [er0 _ e2]
        show (if (1 : Int) ≠ 0 then _ else _) = _
        rw [if_pos (by decide)]
        exact w2
theorem p6_begins_l1 (N : Nat) : ∀ (f : Nat) (v : Int) (d : Int → Int), 0 ≤ v → v ≤ 39 → (39 - v).toNat < f → (∀ j, 0 ≤ j → j < v → d j = 0) → ∃ d', m_X6_begins_l1 N f v d = some d' ∧ ∀ j, 0 ≤ j → j < 39 → d' j = 0 := by
  intro f
  induction f with
  | zero => intro v d _ _ hf; omega
  | succ f ih =>
    intro v d g0 g1 hf hd
    rw [m_X6_begins_l1]
    by_cases hc : 39 ≤ v
    · rw [if_pos hc]
      exact ⟨d, rfl, fun j p q => hd j p (by omega)⟩
    · rw [if_neg hc, z_chk_pos (by omega), z_chk_pos (by omega)]
      refine ih (v + 1) _ (by omega) (by omega) (by omega) (fun j p q => ?_)
      unfold z_up
      by_cases w : j = v
      · rw [if_pos w]
      · rw [if_neg w]; exact hd j p (by omega)
theorem p6_begins_l2 (N : Nat) : ∀ (f : Nat) (v : Int) (d : Int → Int), 0 ≤ v → v ≤ 73 → (73 - v).toNat < f → (∀ j, 0 ≤ j → j < v → d j = if 36 ≤ j ∧ j ≤ 71 then 5 else 0) → ∃ d', m_X6_begins_l2 N f v d = some d' ∧ ∀ j, 0 ≤ j → j < 73 → d' j = if 36 ≤ j ∧ j ≤ 71 then 5 else 0 := by
  intro f
  induction f with
  | zero => intro v d _ _ hf; omega
  | succ f ih =>
    intro v d g0 g1 hf hd
    rw [m_X6_begins_l2]
    by_cases hc : 73 ≤ v
    · rw [if_pos hc]
      exact ⟨d, rfl, fun j p q => hd j p (by omega)⟩
    · rw [if_neg hc, p_in, p_b1]
      by_cases h5 : 36 ≤ v ∧ v ≤ 71
      · rw [if_pos h5, if_neg (by decide), z_chk_pos (by omega), z_chk_pos (by omega)]
        refine ih (v + 1) _ (by omega) (by omega) (by omega) (fun j p q => ?_)
        unfold z_up
        by_cases w : j = v
        · rw [if_pos w, if_pos (by omega)]
        · rw [if_neg w]; exact hd j p (by omega)
      · rw [if_neg h5, if_pos rfl, z_chk_pos (by omega), z_chk_pos (by omega)]
        refine ih (v + 1) _ (by omega) (by omega) (by omega) (fun j p q => ?_)
        unfold z_up
        by_cases w : j = v
        · rw [if_pos w, if_neg (by omega)]
        · rw [if_neg w]; exact hd j p (by omega)
theorem p_read (N : Nat) (hN : 2000 ≤ N) (T be K0 h0 D0 d0 b0 : Int → Int) (bb : Int → Int64) (n a0 R0 C0 n0 hrs a1 : Int) (ht : s_tx T n) : ∃ r o d' b' a', m_X3_readInto N T n a0 R0 C0 n0 K0 be bb h0 D0 hrs = some (r, o) ∧ m_X6_readsAll N T n d0 b0 a1 = some (r, d', b', a') ∧ (0 ≤ r ∧ r ≤ 200 ∨ (r = -4 ∧ s_rdg o d' b' 0)) := by
  have nn := ht.1
  obtain ⟨K, eK, hK⟩ := p_fillI N 36 (by omega) (by omega) K0 0
  obtain ⟨h, eh, hh⟩ := p_fillI N 36 (by omega) (by omega) h0 5
  obtain ⟨D, eD, hD⟩ := p_fillI N 36 (by omega) (by omega) D0 0
  obtain ⟨d, ed, hd⟩ := p6_begins_l1 N N 0 d0 (by omega) (by omega) (by omega) (fun j p q => by omega)
  obtain ⟨b, eb, hb⟩ := p6_begins_l2 N N 0 b0 (by omega) (by omega) (by omega) (fun j p q => by omega)
  have dr : s_dr 4 5 1 K h D (z_up (z_up d 0 4) 1 5) b := by
    refine ⟨⟨by omega, by omega⟩, rfl, rfl, Or.inl ⟨rfl, ?_, fun i p q => ?_⟩, fun i p q => ?_, ?_, fun _ i p q => ?_⟩
    · unfold z_up
      rw [if_neg (by omega), if_neg (by omega)]
      exact hd 2 (by omega) (by omega)
    · rw [hD i, if_pos (by omega)]
    · have e1 : K i = 0 := by rw [hK i, if_pos (by omega)]
      have e2 : h i = 5 := by rw [hh i, if_pos (by omega)]
      have e3 : D i = 0 := by rw [hD i, if_pos (by omega)]
      refine ⟨?_, ?_, ?_, by omega, by omega, by omega, fun _ => ⟨e3, e1⟩⟩
      · unfold z_up
        rw [if_neg (by omega), if_neg (by omega), e1]
        exact hd _ (by omega) (by omega)
      · rw [hb i p (by omega), if_neg (by omega), e3]
      · rw [hb _ (by omega) (by omega), if_pos (by omega), e2]
    · rw [hb _ (by omega) (by omega), if_neg (by omega)]
    · rw [hK i, if_pos (by omega)]
  obtain ⟨r, o, d', b', a', e1, e2, e3⟩ := p_read_l1 N (by omega) T be bb n 0 ht N 0 0 1 4 5 K h D _ b (by omega) (by omega) (by omega) (by omega) (by omega) dr
  refine ⟨r, o, d', b', a', ?_, ?_, e3⟩
  · rw [m_X3_readInto, m_X0_makeOpen, p_shape, if_pos (by omega), p_b4, eK, p_b1, p_b4, m_X4_makeDry, eh, p_b1, eD, p_b1, p_b3]
    exact e1
  · rw [m_X6_readsAll, m_X6_begins, ed, p_b1, z_chk_pos (by omega), z_chk_pos (by omega), eb, p_b1, p_b2]
    exact e2
