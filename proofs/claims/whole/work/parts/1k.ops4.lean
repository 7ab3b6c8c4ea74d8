/-! rains, years -/
def s_rh (D rc rd : Int → Int) (k v : Int) : Prop := ∀ i, v ≤ i → i < k → D (rc i) = rd i
theorem p_ringsHold_l1 (N : Nat) (m k : Int) (D rc rd rg : Int → Int) (hm : m ≤ 36) (g : s_rg m rc rd rg k) : ∀ (f : Nat) (v : Int), 0 ≤ v → v ≤ k → (k - v).toNat < f → ∃ a, m_X5_ringsHold_l1 N k m rc D rd f v = some a ∧ ((a = 1 ∧ s_rh D rc rd k v) ∨ (a = 0 ∧ ¬ s_rh D rc rd k v)) := by
  have k6 := g.1
  intro f
  induction f with
  | zero => intro v _ _ hf; omega
  | succ f ih =>
    intro v g0 g1 hf
    rw [m_X5_ringsHold_l1]
    by_cases hc : k ≤ v
    · rw [if_pos hc]
      exact ⟨1, rfl, Or.inl ⟨rfl, fun i a b => by omega⟩⟩
    · obtain ⟨q1, q2, q3⟩ := g.2 v g0 (by omega)
      rw [if_neg hc, if_neg (by omega), z_chk_pos (by omega), p_holds, if_pos (show 0 ≤ rc v ∧ rc v < m ∧ rc v < 36 by omega), p_b1, if_neg p_f1, z_chk_pos (by omega), z_chk_pos (by omega)]
      by_cases he : D (rc v) = rd v
      · rw [if_pos he, z_chk_pos (by omega)]
        obtain ⟨a, e, h⟩ := ih (v + 1) (by omega) (by omega) (by omega)
        refine ⟨a, e, h.imp (fun z => ⟨z.1, fun i p q => ?_⟩) (fun z => ⟨z.1, fun w => z.2 (fun i p q => w i (by omega) q)⟩)⟩
        by_cases hi : i = v
        · rw [hi]; exact he
        · exact z.2 i (by omega) q
      · rw [if_neg he]
        exact ⟨0, rfl, Or.inr ⟨rfl, fun w => he (w v (by omega) (by omega))⟩⟩
theorem p6_rains_l2 (N : Nat) (m k : Int) (s D rc rd rg : Int → Int) (hm : m ≤ 36) (g : s_rg m rc rd rg k) (ha : ∀ x, 0 ≤ x → x < 36 → s x = D x) : ∀ (f : Nat) (b v : Int), 0 ≤ v → v ≤ k → (k - v).toNat < f → (b = 1 ∨ b = 0) → ∃ a, m_X6_rains_l2 N k rg s f b v = some a ∧ ((a = 1 ∧ b = 1 ∧ s_rh D rc rd k v) ∨ (a = 0 ∧ ¬ (b = 1 ∧ s_rh D rc rd k v))) := by
  have k6 := g.1
  intro f
  induction f with
  | zero => intro b v _ _ hf; omega
  | succ f ih =>
    intro b v g0 g1 hf hb
    rw [m_X6_rains_l2]
    by_cases hc : k ≤ v
    · rw [if_pos hc]
      rcases hb with h | h
      · exact ⟨b, rfl, Or.inl ⟨h, h, fun i a b => by omega⟩⟩
      · exact ⟨b, rfl, Or.inr ⟨h, fun z => by omega⟩⟩
    · obtain ⟨q1, q2, q3⟩ := g.2 v g0 (by omega)
      rw [if_neg hc]
      rcases hb with h | h
      · have e1 : Int.tdiv (rg v) 100 = rc v := by rw [q3, Int.tdiv_eq_ediv_of_nonneg (by omega)]; omega
        have e2 : Int.tmod (rg v) 100 = rd v := by rw [q3, Int.tmod_eq_emod_of_nonneg (by omega)]; omega
        rw [if_neg (show ¬ b = 0 by omega), z_chk_pos (by omega), e1, z_chk_pos (by omega), z_chk_pos (by omega), z_chk_pos (by omega), e2, z_chk_pos (by omega), ha (rc v) q1.1 (by omega)]
        by_cases he : D (rc v) = rd v
        · rw [if_neg (fun z => z he), z_chk_pos (by omega)]
          obtain ⟨a, e, w⟩ := ih 1 (v + 1) (by omega) (by omega) (by omega) (Or.inl rfl)
          refine ⟨a, e, w.imp (fun z => ⟨z.1, h, fun i p q => ?_⟩) (fun z => ⟨z.1, fun w => z.2 ⟨rfl, fun i p q => w.2 i (by omega) q⟩⟩)⟩
          by_cases hi : i = v
          · rw [hi]; exact he
          · exact z.2.2 i (by omega) q
        · rw [if_pos he, z_chk_pos (by omega)]
          obtain ⟨a, e, w⟩ := ih 0 (v + 1) (by omega) (by omega) (by omega) (Or.inr rfl)
          refine ⟨a, e, Or.inr ⟨?_, fun z => he (z.2 v (by omega) (by omega))⟩⟩
          rcases w with w | w
          · omega
          · exact w.1
      · rw [if_pos h, z_chk_pos (by omega)]
        obtain ⟨a, e, w⟩ := ih 0 (v + 1) (by omega) (by omega) (by omega) (Or.inr rfl)
        refine ⟨a, e, Or.inr ⟨?_, fun z => by omega⟩⟩
        rcases w with w | w
        · omega
        · exact w.1
theorem s_or0 {v : Int} (h : z_n v) : z_or v 0 = v := by
  unfold z_or
  rw [← z_zero, Int32.or_zero]
  exact z_toInt h
theorem s_ones : ∀ k : Nat, k < 31 → z_or (2 ^ k - 1) (z_shl 1 (k : Int)) = 2 ^ (k + 1) - 1 := by decide +kernel
/-- one rain tried in the reference -/
theorem p6_tryRain (N : Nat) (hN : 1000000 ≤ N) {R C B : Int} {K be : Int → Int} {bb : Int → Int64} {h D : Int → Int} {hr : Int} {told s : Int → Int} (c : s_cw R C B K be bb h D hr told s) (v : Int) (hv : 0 ≤ v ∧ v ≤ 60) : ∃ s1, (if v ≤ 0 then some s else z_b1 (m_X6_pours N told s v) (fun w => some w)) = some s1 ∧ s_ag s1 h (s_pour (R * C) (s_nb R C K) K h v D) hr := by
  obtain ⟨hd, hg, ht, hkk, ha, hok, hs, hh⟩ := c
  have hn := s_dim_n hd
  by_cases h0 : v ≤ 0
  · have : v = 0 := by omega
    subst this
    rw [if_pos h0, s_pour_zero _ _ K _ _ (by omega) hok hs]
    exact ⟨s, rfl, ha⟩
  · obtain ⟨s1, e3, a3⟩ := p6_pours N hN R C hr K told s _ _ ht ha hok v (by omega)
    rw [if_neg h0, e3, p_b1]
    exact ⟨s1, rfl, a3⟩
theorem p6_rains0 (N : Nat) (hN : 1000000 ≤ N) {R C B : Int} {K be : Int → Int} {bb : Int → Int64} {h D : Int → Int} {hr : Int} {told held rg : Int → Int} : ∀ (f : Nat) (v : Nat) (s : Int → Int), v ≤ 31 → 31 - v < f → s_cw R C B K be bb h D hr told s → (∀ i, 0 ≤ i → i < 73 → held i = s i) → ∃ s', m_X6_rains_l1 N told 0 rg held f (2 ^ v - 1) v s = some (2147483647, s') ∧ s_cw R C B K be bb h D hr told s' := by
  intro f
  induction f with
  | zero => intro v s _ hf; omega
  | succ f ih =>
    intro v s g1 hf c hh
    rw [m_X6_rains_l1]
    by_cases hc : 31 ≤ v
    · have : v = 31 := by omega
      subst this
      rw [if_pos (by omega)]
      exact ⟨s, rfl, c⟩
    · obtain ⟨s1, e1, a1⟩ := p6_tryRain N hN c v (by omega)
      obtain ⟨s2, e2, l2⟩ := p6_lets N (by omega) held s1
      have c2 := s_cw_same c (fun i p q => (l2 i p q).trans (hh i p q))
      have e3 : m_X6_rains_l2 N 0 rg s1 N 1 0 = some 1 := by
        obtain ⟨M, rfl⟩ : ∃ M, N = M + 1 := ⟨N - 1, by omega⟩
        rw [m_X6_rains_l2, if_pos (by omega)]
      rw [if_neg (by omega), e1, p_b1, e3, p_b1, if_neg p_f1, p_b1, e2, p_b1, z_chk_pos (by omega), s_ones v (by omega)]
      exact ih (v + 1) s2 (by omega) (by omega) c2 (fun i p q => (l2 i p q).symm)
theorem o_rains_l (N : Nat) (hN : 1000000 ≤ N) {R C B : Int} {K be : Int → Int} {bb : Int → Int64} {h D : Int → Int} {hr : Int} {told held rc rd rg : Int → Int} {rk : Int} (g : s_rg (R * C) rc rd rg rk) : ∀ (f : Nat) (x v : Int) (s lh lD : Int → Int) (lhr : Int) (lr : Int64) (f' : Nat), 0 ≤ v → v ≤ 31 → (31 - v).toNat < f → (31 - v).toNat < f' → z_n x → s_cw R C B K be bb h D hr told s → (∀ i, 0 ≤ i → i < 73 → held i = s i) → ∃ a o s', m_X5_rains_l1 N h D hr (R * C) K be bb rc rd rk f x v lh lD lhr lr = some (a, o) ∧ m_X6_rains_l1 N told rk rg held f' x v s = some (a, s') ∧ s_cw R C B K be bb h D hr told s' := by
  intro f
  induction f with
  | zero => intro x v s lh lD lhr lr f' _ _ hf; omega
  | succ f ih =>
    intro x v s lh lD lhr lr f' g0 g1 hf hf' hx c hh
    obtain ⟨f2, rfl⟩ : ∃ f2, f' = f2 + 1 := ⟨f' - 1, by omega⟩
    have cc := c
    obtain ⟨hd, hg, ht, hkk, hw⟩ := c
    have hn := s_dim_n hd
    have hE := s_env_nb K hd
    rw [m_X5_rains_l1, m_X6_rains_l1]
    by_cases hc : 30 < v
    · rw [if_pos hc, if_pos (show 31 ≤ v by omega)]
      exact ⟨_, _, _, rfl, rfl, cc⟩
    · have w := s_later hE.1.2 hE.2.1 hw lh lD
      have cl : s_cw R C B K be bb (z_cpy h lh 0 0 36) (z_cpy D lD 0 0 36) hr told s := ⟨hd, hg, ht, hkk, w⟩
      obtain ⟨s1, e1, a1⟩ := p6_tryRain N hN cl v (by omega)
      obtain ⟨r', e2⟩ := p_pour N hN (R * C) (s_nb R C K) K _ _ be bb hE w.2.1 hg lr v (by omega)
      obtain ⟨a, e3, q⟩ := p_ringsHold_l1 N (R * C) rk (s_pour (R * C) (s_nb R C K) K (z_cpy h lh 0 0 36) v (z_cpy D lD 0 0 36)) rc rd rg (by omega) g N 0 (by omega) g.1.1 (by have := g.1; omega)
      obtain ⟨b, e4, q2⟩ := p6_rains_l2 N (R * C) rk s1 _ rc rd rg (by omega) g a1.1 N 1 0 (by omega) g.1.1 (by have := g.1; omega) (Or.inl rfl)
      obtain ⟨s2, e5, l5⟩ := p6_lets N (by omega) held s1
      have c2 := s_cw_same cc (fun i p q => (l5 i p q).trans (hh i p q))
      have hh2 : ∀ i, 0 ≤ i → i < 73 → held i = s2 i := fun i p q => (l5 i p q).symm
      rw [if_neg hc, if_neg (show ¬ 31 ≤ v by omega), p_copyNow, p_b3, e2, p_b2, m_X5_ringsHold, e3, p_b1, e1, p_b1, e4, p_b1]
      rcases q with ⟨qa, qb⟩ | ⟨qa, qb⟩
      · have eb : b = 1 := by
          rcases q2 with z | z
          · exact z.1
          · exact absurd ⟨rfl, qb⟩ z.2
        subst qa eb
        rw [if_neg p_f1, if_neg p_f1, p_b1, e5, p_b1, z_chk_pos (by omega), z_chk_pos (by omega)]
        exact ih _ (v + 1) s2 _ _ _ _ f2 (by omega) (by omega) (by omega) (by omega) (z_n_or _ _) c2 hh2
      · have eb : b = 0 := by
          rcases q2 with z | z
          · exact absurd z.2.2 qb
          · exact z.1
        subst qa eb
        rw [if_pos p_t0, if_pos p_t0, p_b1, e5, p_b1, z_chk_pos (by omega), z_chk_pos (by omega), s_or0 hx]
        exact ih _ (v + 1) s2 _ _ _ _ f2 (by omega) (by omega) (by omega) (by omega) hx c2 hh2
theorem o_rains (N : Nat) (hN : 1000000 ≤ N) {R C B : Int} {K be : Int → Int} {bb : Int → Int64} {h D : Int → Int} {hr : Int} {told s rc rd rg : Int → Int} {rk : Int} (c : s_cw R C B K be bb h D hr told s) (g : s_rg (R * C) rc rd rg rk) (lh lD : Int → Int) (lhr : Int) (lr : Int64) (held : Int → Int) : ∃ a o s' held', m_X5_rains N rc rd rk (R * C) K be bb h D hr lh lD lhr lr = some (a, o) ∧ m_X6_rains N told s rg rk held = some (a, s', held') ∧ s_cw R C B K be bb h D hr told s' := by
  obtain ⟨held', e3, l3⟩ := p6_holdsS N (by omega) s held
  rw [m_X5_rains, m_X6_rains, e3, p_b1]
  by_cases h0 : rk ≠ 0
  · obtain ⟨a, o, s', e1, e2, c2⟩ := o_rains_l N hN g N 0 0 s lh lD lhr lr N (by omega) (by omega) (by omega) (by omega) z_n0 c l3
    obtain ⟨o1, o2, o3, o4⟩ := o
    rw [if_pos h0, e1, p_b5, e2, p_b2]
    exact ⟨_, _, _, _, rfl, rfl, c2⟩
  · have : rk = 0 := by omega
    subst this
    obtain ⟨s', e2, c2⟩ := p6_rains0 N hN (rg := rg) (held := held') N 0 s (by omega) (by omega) c l3
    rw [if_neg h0, show m_X6_rains_l1 N told 0 rg held' N 0 0 s = _ from e2, p_b2]
    exact ⟨_, _, _, _, rfl, rfl, c2⟩
