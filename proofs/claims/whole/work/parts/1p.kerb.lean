/-! the kerb -/
theorem p_areApart (N : Nat) (hN : 1000000 ≤ N) {R C B : Int} {K be : Int → Int} {bb : Int → Int64} {h D : Int → Int} {hr : Int} {told s held : Int → Int} (c : s_cw R C B K be bb h D hr told s) (hh : ∀ i, 0 ≤ i → i < 73 → held i = s i) (lh lD : Int → Int) (lhr : Int) (lr : Int64) (st wt : Int → Int) (ws sc sm : Int) (T : Int → Int) (x y k : Int) (hx : 0 ≤ x ∧ x < R * C) (hy : 0 ≤ y ∧ y < R * C) (hk : 0 ≤ k ∧ k ≤ 60) : ∃ a o s' T', m_X5_apartBehindRain N (R * C) K be bb h D hr lh lD lhr lr st wt ws sc sm x y k = some (a, o) ∧ m_X6_areApart N told s T held x y k = some (a, s', T') ∧ (a = 0 ∨ a = 1) ∧ ∀ i, 0 ≤ i → i < 73 → s' i = s i := by
  obtain ⟨a, o, s1, b, T', e1, e2, e3, e4⟩ := p_apartRain N hN c lh lD lhr lr st wt ws sc sm T x y k hx hy hk
  obtain ⟨s2, e5, l5⟩ := p6_lets N (by omega) held s1
  rw [e1, m_X6_areApart, e2, p_b1, e3, p_b2]
  rcases e4 with ⟨q1, q2⟩ | ⟨q1, q2⟩
  · subst q1 q2
    rw [if_pos p_t1, p_b1, e5, p_b1]
    exact ⟨_, _, _, _, rfl, rfl, Or.inl rfl, fun i p q => (l5 i p q).trans (hh i p q)⟩
  · subst q1 q2
    rw [if_neg p_f0, p_b1, e5, p_b1]
    exact ⟨_, _, _, _, rfl, rfl, Or.inr rfl, fun i p q => (l5 i p q).trans (hh i p q)⟩
theorem s_up_back (f : Int → Int) (i a : Int) : z_up (z_up f i a) i (f i) = f := by
  funext j
  unfold z_up
  by_cases h : j = i
  · rw [if_pos h, h]
  · rw [if_neg h, if_neg h]
theorem s_kerb_cw {R C B : Int} {K K' be be' : Int → Int} {bb bb' : Int → Int64} {h D : Int → Int} {hr : Int} {told s : Int → Int} (c : s_cw R C B K be bb h D hr told s) (v : Int) (hv : 0 ≤ v ∧ v < R * C) (hD : D v = 0) (hK : ∀ i, 0 ≤ i → i < 36 → K' i = if i = v then 3 else K i) (hg : s_gb (R * C) (s_nb R C K') be' bb') : s_cw R C B K' be' bb' h D hr (z_up told (3 + v) 3) s := by
  obtain ⟨hd, hg0, ht, hk, ha, hok, hs, hh⟩ := c
  have hn := s_dim_n hd
  refine ⟨hd, hg, ⟨hd, ?_, ?_, fun i a b => ?_⟩, fun i a b => ?_, ha, fun x a b => ?_, ?_, hh⟩
  · unfold z_up
    rw [if_neg (by omega)]; exact ht.2.1
  · unfold z_up
    rw [if_neg (by omega)]; exact ht.2.2.1
  · unfold z_up
    rw [hK i a b]
    by_cases e : i = v
    · rw [if_pos (by omega), if_pos e]
    · rw [if_neg (by omega), if_neg e]; exact ht.2.2.2 i a b
  · rw [hK i a b]
    by_cases e : i = v
    · rw [if_pos e]; omega
    · rw [if_neg e]; exact hk i a b
  · have q := hok x a b
    refine ⟨q.1, q.2.1, fun z => ?_⟩
    rw [hK x a b] at z
    by_cases e : x = v
    · rw [e]; exact hD
    · rw [if_neg e] at z
      exact q.2.2 z
  · rw [s_still_iff] at hs ⊢
    intro y s' a b d e hv'
    obtain ⟨v1, v2, v3⟩ := hv'
    have bd := s_nb_in (R := R) (C := C) (K := K') (x := y) (s := s')
    have kn := hK (s_nb R C K' y s') v2 (by omega)
    have nev : s_nb R C K' y s' ≠ v := fun z => by
      rw [if_pos z] at kn
      omega
    rw [if_neg nev] at kn
    have same : s_nb R C K y s' = s_nb R C K' y s' := by
      have bd2 := bd
      unfold s_nb at v2 kn nev bd ⊢
      by_cases q : 0 ≤ s_next C y s' ∧ s_next C y s' < R * C ∧ (s' < 2 ∨ s_next C y s' / C = y / C) ∧ K' (s_next C y s') ≠ 3
      · rw [if_pos q] at kn ⊢
        rw [if_pos ⟨q.1, q.2.1, q.2.2.1, by rw [← kn]; exact q.2.2.2⟩]
      · rw [if_neg q] at v2
        omega
    refine hs y s' a b d e ⟨v1, by rw [same]; exact v2, ?_⟩
    rw [same, ← kn]
    exact v3
theorem p_mayBeKerb (N : Nat) (n : Int) (K D : Int → Int) (v x y : Int) (hn : n ≤ 36) : m_X5_mayBeKerb N n K D v x y = some (if (0 ≤ v ∧ v < n) ∧ v ≠ x ∧ v ≠ y ∧ K v ≠ 3 ∧ D v = 0 then 1 else 0) := by
  rw [m_X5_mayBeKerb, p_holds, p_b1]
  by_cases h1 : 0 ≤ v ∧ v < n
  · rw [if_pos (show 0 ≤ v ∧ v < n ∧ v < 36 by omega), if_neg p_f1]
    by_cases h2 : v = x
    · rw [if_pos h2, if_neg (fun z => z.2.1 h2)]
    · rw [if_neg h2]
      by_cases h3 : v = y
      · rw [if_pos h3, if_neg (fun z => z.2.2.1 h3)]
      · rw [if_neg h3, z_chk_pos (by omega)]
        by_cases h4 : K v = 3
        · rw [if_pos h4, if_neg (fun z => z.2.2.2.1 h4)]
        · rw [if_neg h4, z_chk_pos (by omega)]
          by_cases h5 : D v = 0
          · rw [if_neg (fun z => z h5), if_pos ⟨h1, h2, h3, h4, h5⟩]
          · rw [if_pos h5, if_neg (fun z => h5 z.2.2.2.2)]
  · rw [if_neg (show ¬(0 ≤ v ∧ v < n ∧ v < 36) by omega), if_pos p_t0, if_neg (fun z => h1 z.1)]
theorem o_kerb_l (N : Nat) (hN : 1000000 ≤ N) {R C B : Int} {K be : Int → Int} {bb : Int → Int64} {h D : Int → Int} {hr : Int} {told held : Int → Int} (x y k : Int) (hx : 0 ≤ x ∧ x < R * C) (hy : 0 ≤ y ∧ y < R * C) (hk : 0 ≤ k ∧ k ≤ 9) : ∀ (f : Nat) (v : Int) (oR oC om : Int) (oK obe : Int → Int) (obb : Int → Int64) (lh lD : Int → Int) (lhr : Int) (lr : Int64) (st wt : Int → Int) (ws sc sm : Int) (s T : Int → Int) (f' : Nat), 0 ≤ v → v ≤ R * C → (R * C - v).toNat < f → (R * C - v).toNat < f' → s_cw R C B K be bb h D hr told s → (∀ i, 0 ≤ i → i < 73 → held i = s i) → ∃ a o s' T' held', m_X5_kerb_l1 N (R * C) K D x y R C be bb h hr k f v oR oC om oK obe obb lh lD lhr lr st wt ws sc sm = some (a, o) ∧ m_X6_kerb_l1 N held x y k f' v told s T = some (a, told, s', T', held') ∧ s_cw R C B K be bb h D hr told s' := by
  intro f
  induction f with
  | zero => intro v oR oC om oK obe obb lh lD lhr lr st wt ws sc sm s T f' _ _ hf; omega
  | succ f ih =>
    intro v oR oC om oK obe obb lh lD lhr lr st wt ws sc sm s T f' g0 g1 hf hf' c hh
    obtain ⟨f2, rfl⟩ : ∃ f2, f' = f2 + 1 := ⟨f' - 1, by omega⟩
    have hd := c.1
    have hn := s_dim_n hd
    have ht := c.2.2.1
    have ha := c.2.2.2.2.1
    rw [m_X5_kerb_l1, m_X6_kerb_l1, p6_cells N ht, p_b1]
    by_cases hc : R * C ≤ v
    · rw [if_pos hc, if_pos hc]
      exact ⟨_, _, _, _, _, rfl, rfl, c⟩
    · rw [if_neg hc, if_neg hc, if_neg (show ¬ 36 ≤ v by omega), p_mayBeKerb N (R * C) K D v x y (by omega), p_b1]
      by_cases h1 : v = x
      · rw [if_neg (fun z => z.2.1 h1 : ¬ ((0 ≤ v ∧ v < R * C) ∧ v ≠ x ∧ v ≠ y ∧ K v ≠ 3 ∧ D v = 0)), if_pos p_t0, z_chk_pos (by omega), if_pos h1, z_chk_pos (by omega)]
        exact ih (v + 1) _ _ _ _ _ _ _ _ _ _ _ _ _ _ _ s T f2 (by omega) (by omega) (by omega) (by omega) c hh
      · rw [if_neg h1]
        by_cases h2 : v = y
        · rw [if_neg (fun z => z.2.2.1 h2 : ¬ ((0 ≤ v ∧ v < R * C) ∧ v ≠ x ∧ v ≠ y ∧ K v ≠ 3 ∧ D v = 0)), if_pos p_t0, z_chk_pos (by omega), if_pos h2, z_chk_pos (by omega)]
          exact ih (v + 1) _ _ _ _ _ _ _ _ _ _ _ _ _ _ _ s T f2 (by omega) (by omega) (by omega) (by omega) c hh
        · rw [if_neg h2, z_chk_pos (show z_n (3 + v) by omega), z_chk_pos (show 0 ≤ 3 + v ∧ 3 + v < 39 by omega), ht.2.2.2 v g0 (by omega)]
          by_cases h3 : K v = 3
          · rw [if_neg (fun z => z.2.2.2.1 h3 : ¬ ((0 ≤ v ∧ v < R * C) ∧ v ≠ x ∧ v ≠ y ∧ K v ≠ 3 ∧ D v = 0)), if_pos p_t0, z_chk_pos (by omega), if_pos h3, z_chk_pos (by omega)]
            exact ih (v + 1) _ _ _ _ _ _ _ _ _ _ _ _ _ _ _ s T f2 (by omega) (by omega) (by omega) (by omega) c hh
          · rw [if_neg h3, z_chk_pos (show 0 ≤ v ∧ v < 73 by omega), ha.1 v g0 (by omega)]
            by_cases h4 : D v = 0
            · rw [if_pos (⟨⟨g0, by omega⟩, h1, h2, h3, h4⟩ : (0 ≤ v ∧ v < R * C) ∧ v ≠ x ∧ v ≠ y ∧ K v ≠ 3 ∧ D v = 0), if_neg p_f1, p_copyGround, p_b6, m_X0_makeKerb, p_holds, if_pos (show 0 ≤ v ∧ v < R * C ∧ v < 36 by omega), p_b1, if_neg p_f1, z_chk_pos (show 0 ≤ v ∧ v < 36 by omega)]
              obtain ⟨be', bb', e1, hg'⟩ := p_link N R C (z_up (z_cpy K oK 0 0 36) v 3) hd (by omega) (z_cpy be obe 0 0 144) (z_cpy bb obb 0 0 36)
              have hK : ∀ i, 0 ≤ i → i < 36 → z_up (z_cpy K oK 0 0 36) v 3 i = if i = v then 3 else K i := fun i a b => by
                unfold z_up
                by_cases e : i = v
                · rw [if_pos e, if_pos e]
                · rw [if_neg e, if_neg e]; exact s_cpy K oK 36 i a b
              have c' := s_kerb_cw c v ⟨g0, by omega⟩ h4 hK hg'
              obtain ⟨a, o, s', T', e2, e3, e4, l4⟩ := p_areApart N hN c' hh lh lD lhr lr st wt ws sc sm T x y k hx hy (by omega)
              obtain ⟨o1, o2, o3, o4, o5, o6, o7, o8, o9⟩ := o
              have c2 := s_cw_same c l4
              have hh2 : ∀ i, 0 ≤ i → i < 73 → held i = s' i := fun i p q => (hh i p q).trans (l4 i p q).symm
              have eb : z_up (z_up told (3 + v) 3) (3 + v) (K v) = told := by
                rw [← ht.2.2.2 v g0 (by omega)]
                exact s_up_back told (3 + v) 3
              rw [e1, p_b2, p_b3, e2, p_b10, if_neg (show ¬ D v ≠ 0 from fun z => z h4), z_chk_pos (show z_n (3 + v) by omega), z_chk_pos (show 0 ≤ 3 + v ∧ 3 + v < 39 by omega), z_chk_pos (show z_n (3 + v) by omega), z_chk_pos (show 0 ≤ 3 + v ∧ 3 + v < 39 by omega), e3, p_b3, z_chk_pos (show z_n (3 + v) by omega), z_chk_pos (show 0 ≤ 3 + v ∧ 3 + v < 39 by omega), eb]
              rcases e4 with q | q
              · subst q
                rw [if_pos p_t0, z_chk_pos (show z_n (v + 1) by omega), if_pos p_t0, z_chk_pos (show z_n (v + 1) by omega)]
                exact ih (v + 1) _ _ _ _ _ _ _ _ _ _ _ _ _ _ _ s' T' f2 (by omega) (by omega) (by omega) (by omega) c2 hh2
              · subst q
                rw [if_neg p_f1, if_neg p_f1]
                exact ⟨_, _, _, _, _, rfl, rfl, c2⟩
            · rw [if_neg (fun z => h4 z.2.2.2.2 : ¬ ((0 ≤ v ∧ v < R * C) ∧ v ≠ x ∧ v ≠ y ∧ K v ≠ 3 ∧ D v = 0)), if_pos p_t0, z_chk_pos (by omega), if_pos h4, z_chk_pos (by omega)]
              exact ih (v + 1) _ _ _ _ _ _ _ _ _ _ _ _ _ _ _ s T f2 (by omega) (by omega) (by omega) (by omega) c hh
theorem o_kerb (N : Nat) (hN : 1000000 ≤ N) {R C B : Int} {K be : Int → Int} {bb : Int → Int64} {h D : Int → Int} {hr : Int} {told s : Int → Int} (c : s_cw R C B K be bb h D hr told s) (oR oC om : Int) (oK obe : Int → Int) (obb : Int → Int64) (lh lD : Int → Int) (lhr : Int) (lr : Int64) (st wt : Int → Int) (ws sc sm : Int) (T held : Int → Int) (x1 x2 x3 : Int) : ∃ a o s' T' held', m_X5_kerb N R C (R * C) K be bb h D hr oR oC om oK obe obb lh lD lhr lr st wt ws sc sm x1 x2 x3 = some (a, o) ∧ m_X6_kerb N told s T held x1 x2 x3 = some (a, told, s', T', held') ∧ s_cw R C B K be bb h D hr told s' := by
  have hn := s_dim_n c.1
  have ht := c.2.2.1
  rw [m_X5_kerb, m_X6_kerb, p_areTwo N _ x1 x2 (by omega), p_b1, p6_isCell N ht, p6_isCell N ht, p_b1, p_b1]
  by_cases h1 : 0 ≤ x1 ∧ x1 < R * C
  · by_cases h2 : 0 ≤ x2 ∧ x2 < R * C
    · by_cases h3 : x1 = x2
      · rw [if_neg (show ¬((0 ≤ x1 ∧ x1 < R * C) ∧ (0 ≤ x2 ∧ x2 < R * C) ∧ x1 ≠ x2) from fun z => z.2.2 h3), if_pos p_t0, if_pos h1, if_neg p_f1, if_pos h2, if_neg p_f1, if_pos h3]
        exact ⟨_, _, _, _, _, rfl, rfl, c⟩
      · rw [if_pos (show (0 ≤ x1 ∧ x1 < R * C) ∧ (0 ≤ x2 ∧ x2 < R * C) ∧ x1 ≠ x2 from ⟨h1, h2, h3⟩), if_neg p_f1, if_pos h1, if_neg p_f1, if_pos h2, if_neg p_f1, if_neg h3, p_isFrom, p_in, p_b1, p_b1]
        by_cases h4 : 0 ≤ x3 ∧ x3 ≤ 9
        · obtain ⟨held', e3, l3⟩ := p6_holdsS N (by omega) s held
          obtain ⟨a, o, s', T', e1, e2, e4, l4⟩ := p_areApart N hN c l3 lh lD lhr lr st wt ws sc sm T x1 x2 x3 h1 h2 (by omega)
          obtain ⟨o1, o2, o3, o4, o5, o6, o7, o8, o9⟩ := o
          have c2 := s_cw_same c l4
          rw [if_pos h4, if_pos p_t1, if_pos p_t1, e1, p_b10, e3, p_b1, e2, p_b3]
          rcases e4 with q | q
          · subst q
            rw [if_pos p_t0, if_pos p_t0]
            exact o_kerb_l N hN x1 x2 x3 h1 h2 h4 N 0 _ _ _ _ _ _ _ _ _ _ _ _ _ _ _ s' T' N (by omega) (by omega) (by omega) (by omega) c2 (fun i p q => (l3 i p q).trans (l4 i p q).symm)
          · subst q
            rw [if_neg p_f1, if_neg p_f1]
            exact ⟨_, _, _, _, _, rfl, rfl, c2⟩
        · rw [if_neg h4, if_neg p_f0, if_neg p_f0]
          exact ⟨_, _, _, _, _, rfl, rfl, c⟩
    · rw [if_neg (show ¬((0 ≤ x1 ∧ x1 < R * C) ∧ (0 ≤ x2 ∧ x2 < R * C) ∧ x1 ≠ x2) from fun z => h2 z.2.1), if_pos p_t0, if_pos h1, if_neg p_f1, if_neg h2, if_pos p_t0]
      exact ⟨_, _, _, _, _, rfl, rfl, c⟩
  · rw [if_neg (show ¬((0 ≤ x1 ∧ x1 < R * C) ∧ (0 ≤ x2 ∧ x2 < R * C) ∧ x1 ≠ x2) from fun z => h1 z.1), if_pos p_t0, if_neg h1, if_pos p_t0]
    exact ⟨_, _, _, _, _, rfl, rfl, c⟩
