/-! the sun -/
theorem p_wetBehind_l1 (N : Nat) (hN : 1000000 ≤ N) (n : Nat) (hn : n ≤ 6) (m : Int) (nb : Int → Int → Int) (K h D be : Int → Int) (bb : Int → Int64) (hE : s_env m nb K) (hok : s_ok m K h D) (hg : s_gb m nb be bb) (hr x : Int) (hh : 0 ≤ hr ∧ hr ≤ 800000) (hx : 0 ≤ x ∧ x < m) : ∀ (f v b : Nat) (r : Int64), v ≤ n + 1 → n + 1 - v < f → b < 2 ^ v → (∀ j : Nat, j < v → (z_and (z_shr b j) 1 = 1 ↔ 0 < s_hs m nb K h hr j D x)) → ∃ (b' : Nat) (o : (Int → Int) × Int × Int64), m_X5_wetBehindHours_l1 N n m x h K be bb f b v (s_hs m nb K h hr v D) (hr + v) r = some ((b' : Int), o) ∧ ∀ j : Nat, j ≤ n → (z_and (z_shr b' j) 1 = 1 ↔ 0 < s_hs m nb K h hr j D x) := by
  intro f
  induction f with
  | zero => intro v b r _ hf; omega
  | succ f ih =>
    intro v b r g1 hf hb hj
    have m36 := hE.1
    rw [m_X5_wetBehindHours_l1]
    by_cases hc : n < v
    · rw [if_pos (by omega)]
      exact ⟨b, _, rfl, fun j q => hj j (by omega)⟩
    · obtain ⟨t1, t2, t3, t4⟩ := s_set v (by omega) b hb
      obtain ⟨r', e⟩ := p_pass1 N hN m nb K h (s_hs m nb K h hr v D) be bb hE (s_hs_ok m nb K h D hr hE hok v) hg r (hr + v) (by omega)
      have e' : m_X4_passHour N h (s_hs m nb K h hr v D) (hr + v) r m K be bb = some (s_hs m nb K h hr (v + 1) D, hr + ((v + 1 : Nat) : Int), r') := by
        rw [e]
        show some (s_hour m nb K h (hr + v) (s_hs m nb K h hr v D), hr + v + 1, r') = _
        rw [show hr + ((v + 1 : Nat) : Int) = hr + v + 1 by omega]
        rfl
      rw [if_neg (by omega), p_holds, if_pos (show 0 ≤ x ∧ x < m ∧ x < 36 by omega), p_b1, if_neg p_f1, z_chk_pos (by omega)]
      by_cases hd : s_hs m nb K h hr v D x ≤ 0
      · rw [if_pos hd, p_b1, e', p_b3, z_chk_pos (by omega)]
        refine ih (v + 1) b r' (by omega) (by omega) (by rw [Nat.pow_succ]; omega) (fun j q => ?_)
        by_cases w : j = v
        · rw [w]
          exact ⟨fun z => absurd z t1, fun z => by omega⟩
        · exact hj j (by omega)
      · obtain ⟨y, hy⟩ := Int.eq_ofNat_of_zero_le t2.2
        rw [if_neg hd, p_b1, e', p_b3, z_chk_pos (by omega)]
        rw [hy] at t2 t3 t4 ⊢
        refine ih (v + 1) y r' (by omega) (by omega) (by simpa using t2.1) (fun j q => ?_)
        by_cases w : j = v
        · rw [w, t3]
          exact ⟨fun _ => by omega, fun _ => rfl⟩
        · rw [t4 j (by omega)]
          exact hj j (by omega)
theorem p6_sun_l3 (N : Nat) (hN : 1000000 ≤ N) (n : Nat) (hn : n ≤ 6) (R C hr p : Int) (m : Nat) (K t h D : Int → Int) (ht : s_tk R C K t) (hok : s_ok (R * C) K h D) (hh : 0 ≤ hr ∧ hr ≤ 800000) (hp : 0 ≤ p ∧ p ≤ 10) : ∀ (f k : Nat) (s : Int → Int), k ≤ n → n - k < f → s_ag s h (s_hs (R * C) (s_nb R C K) K h hr (s_pc m k) D) (hr + (s_pc m k : Nat)) → ∃ s', m_X6_sun_l3 N n m p t f (s_pd m p k) k s = some (s_pd m p n, s') ∧ s_ag s' h (s_hs (R * C) (s_nb R C K) K h hr (s_pc m n) D) (hr + (s_pc m n : Nat)) := by
  have hE := s_env_nb K ht.1
  intro f
  induction f with
  | zero => intro k s _ hf; omega
  | succ f ih =>
    intro k s g1 hf ha
    rw [m_X6_sun_l3]
    by_cases hc : n ≤ k
    · have : k = n := by omega
      subst this
      rw [if_pos (by omega)]
      exact ⟨s, rfl, ha⟩
    · have le := s_pc_le m k
      have b1 := s_pd_b m p hp (k + 1)
      have b2 := s_ten (k + 1) (by omega)
      have go := fun s => ih (k + 1) s (by omega) (by omega)
      rw [s_pd, s_pc] at go
      rw [s_pd] at b1
      rw [if_neg (by omega)]
      by_cases hb : z_and (z_shr m k) 1 ≠ 1
      · rw [if_pos hb] at b1
        rw [if_pos hb, if_pos hb, Nat.add_zero] at go
        rw [if_pos hb, p_b1, if_pos p_t0, z_chk_pos (by omega), p_b1, z_chk_pos (by omega), if_pos p_t0, z_chk_pos (by omega)]
        exact go s ha
      · rw [if_neg hb] at b1
        rw [if_neg hb, if_neg hb] at go
        obtain ⟨s1, e1, a1⟩ := p6_shines N hN R C (hr + (s_pc m k : Nat)) K t s h _ ht ha (s_hs_ok _ _ K h D hr hE hok _) (by omega)
        rw [if_neg hb, p_b1, if_neg p_f1, p_b1, z_chk_pos (by omega), if_neg p_f1, e1, p_b1, z_chk_pos (by omega)]
        refine go s1 ?_
        rw [show hr + ((s_pc m k + 1 : Nat) : Int) = hr + (s_pc m k : Nat) + 1 by omega]
        exact a1
theorem o_sun_l (N : Nat) (hN : 1000000 ≤ N) (n : Nat) (hn : n ≤ 6) {R C B : Int} {K be : Int → Int} {bb : Int → Int64} {h D h2 D2 : Int → Int} {hr : Int} {told held : Int → Int} (hB : B ≤ 700000) (x p : Int) (hx : 0 ≤ x ∧ x < R * C) (hp : 0 ≤ p ∧ p ≤ 10) (b : Nat) (hb : ∀ j : Nat, j ≤ n → (z_and (z_shr b j) 1 = 1 ↔ 0 < s_hs (R * C) (s_nb R C K) K h2 hr j D2 x)) (w2 : ∀ s, s_wt (R * C) (s_nb R C K) K B s h D hr → s_wt (R * C) (s_nb R C K) K B s h2 D2 hr) : ∀ (f m : Nat) (t : Int) (s : Int → Int) (f' : Nat), m ≤ 2 ^ n → 2 ^ n - m < f → 2 ^ n - m < f' → 0 ≤ t → t ≤ 1000000 * m → s_cw R C B K be bb h D hr told s → (∀ i, 0 ≤ i → i < 73 → held i = s i) → ∃ a s', m_X5_sun_l1 N n b p f t m = some a ∧ m_X6_sun_l2 N n p told x held f' t m s = some (a, s') ∧ 0 ≤ a ∧ a ≤ 64000000 ∧ s_cw R C B K be bb h D hr told s' := by
  obtain ⟨sh, s64⟩ := s_shl1 n (by omega)
  intro f
  induction f with
  | zero => intro m t s f' _ hf; omega
  | succ f ih =>
    intro m t s f' g1 hf hf' t0 t1 c hh
    obtain ⟨f2, rfl⟩ : ∃ f2, f' = f2 + 1 := ⟨f' - 1, by omega⟩
    have hn36 := s_dim_n c.1
    have w := w2 s c.2.2.2.2
    have ht := c.2.2.1
    rw [m_X5_sun_l1, m_X6_sun_l2, sh]
    by_cases hc : 2 ^ n ≤ m
    · rw [if_pos (by omega), if_pos (by omega)]
      exact ⟨_, _, rfl, rfl, t0, by omega, c⟩
    · have le := s_pc_le m n
      obtain ⟨s1, e1, a1⟩ := p6_sun_l3 N hN n hn R C hr p m K told h2 D2 ht w.2.1 (by have := w.2.2.2; omega) hp N 0 s (by omega) (by omega) (by
        show s_ag s h2 D2 (hr + 0)
        rw [Int.add_zero]; exact w.1)
      have e1' : m_X6_sun_l3 N n m p told N 1 0 s = some (s_pd m p n, s1) := e1
      obtain ⟨s2, e2, l2⟩ := p6_lets N (by omega) held s1
      have c2 := s_cw_same c (fun i p q => (l2 i p q).trans (hh i p q))
      have hh2 : ∀ i, 0 ≤ i → i < 73 → held i = s2 i := fun i p q => (l2 i p q).symm
      have ax := a1.1 x hx.1 (by omega)
      have hbr := hb (s_pc m n) le
      have b1 := s_pd_b m p hp n
      have b2 := s_ten n (by omega)
      have pe := s_pd_eq m p n
      rw [if_neg (by omega), if_neg (by omega), s_count N n (by omega) m (by omega), p_b1, e1', p_b2, z_chk_pos (by omega), ax]
      by_cases hw : z_and (z_shr b (s_pc m n : Nat)) 1 = 1
      · have pos := hbr.mp hw
        rw [if_neg (fun z => z hw), p_power N (by omega) p hp _ (by omega), p_b1, z_chk_pos (by omega), z_chk_pos (by omega), show (n : Int) - (s_pc m n : Nat) = ((n - s_pc m n : Nat) : Int) by omega, p_power N (by omega) (10 - p) (by omega) _ (by omega), p_b1, ← pe, z_chk_pos (by omega), z_chk_pos (by omega), z_chk_pos (by omega), if_neg (by omega), p_b1, z_chk_pos (by omega), e2, p_b1, z_chk_pos (by omega)]
        have go := ih (m + 1) (t + s_pd m p n) s2 f2 (by omega) (by omega) (by omega) (by omega) (by omega) c2 hh2
        rw [show ((m + 1 : Nat) : Int) = (m : Int) + 1 from rfl] at go
        rw [z_chk_pos (by omega)]; exact go
      · have neg : ¬ 0 < s_hs (R * C) (s_nb R C K) K h2 hr (s_pc m n) D2 x := fun z => hw (hbr.mpr z)
        rw [if_pos hw, z_chk_pos (by omega), if_pos (by omega), p_b1, z_chk_pos (by omega), e2, p_b1, z_chk_pos (by omega), Int.add_zero]
        exact ih (m + 1) _ s2 f2 (by omega) (by omega) (by omega) (by omega) (by omega) c2 hh2
theorem o_sun (N : Nat) (hN : 1000000 ≤ N) {R C B : Int} {K be : Int → Int} {bb : Int → Int64} {h D : Int → Int} {hr : Int} {told s : Int → Int} (hB : B ≤ 700000) (c : s_cw R C B K be bb h D hr told s) (lh lD : Int → Int) (lhr : Int) (lr : Int64) (held : Int → Int) (x1 x2 x3 x4 : Int) : ∃ a o s' held', m_X5_sun N (R * C) K be bb h D hr lh lD lhr lr x1 x2 x3 x4 = some (a, o) ∧ m_X6_sun N told s held x1 x2 x3 x4 = some (a, s', held') ∧ s_cw R C B K be bb h D hr told s' := by
  have cc := c
  obtain ⟨hd, hg, ht, hk, hw⟩ := c
  have hn := s_dim_n hd
  have hE := s_env_nb K hd
  rw [m_X5_sun, m_X6_sun, p_holds, p6_isCell N ht, p_b1, p_b1]
  by_cases hx : 0 ≤ x1 ∧ x1 < R * C
  · rw [if_pos (show 0 ≤ x1 ∧ x1 < R * C ∧ x1 < 36 by omega), if_pos hx, if_neg p_f1, if_neg p_f1, p_isFrom, p_in, p_b1, p_b1]
    by_cases h2 : 0 ≤ x2 ∧ x2 ≤ 6
    · rw [if_pos h2, if_neg p_f1, if_neg p_f1, p_isFrom, p_in, p_b1, p_b1]
      by_cases h3 : 0 ≤ x3 ∧ x3 ≤ 10
      · rw [if_pos h3, if_neg p_f1, if_neg p_f1, p_isFrom, p_in, p_b1, p_b1]
        by_cases h4 : 0 ≤ x4 ∧ x4 ≤ 1
        · obtain ⟨n, rfl⟩ := Int.eq_ofNat_of_zero_le h2.1
          have w := s_later hE.1.2 hE.2.1 hw lh lD
          obtain ⟨b, o, e1, hb⟩ := p_wetBehind_l1 N hN n (by omega) (R * C) (s_nb R C K) K _ _ be bb hE w.2.1 hg hr x1 (by have := w.2.2.2; omega) hx N 0 0 lr (by omega) (by omega) (by decide) (fun j q => by omega)
          obtain ⟨o1, o2, o3⟩ := o
          have e1' : m_X5_wetBehindHours_l1 N n (R * C) x1 (z_cpy h lh 0 0 36) K be bb N 0 0 (z_cpy D lD 0 0 36) hr lr = some ((b : Int), o1, o2, o3) := by
            rw [← e1]
            show _ = m_X5_wetBehindHours_l1 N n (R * C) x1 (z_cpy h lh 0 0 36) K be bb N 0 0 (z_cpy D lD 0 0 36) (hr + 0) lr
            rw [Int.add_zero]
          obtain ⟨held', e3, l3⟩ := p6_holdsS N (by omega) s held
          have b64 := (s_shl1 n (by omega)).2
          have ol := o_sun_l N hN n (by omega) (be := be) (bb := bb) (told := told) (held := held') hB x1 x3 hx h3 b hb (fun s q => s_later hE.1.2 hE.2.1 q lh lD)
          have i1 : 0 ≤ 2 ^ n := Nat.zero_le _
          have i2 : 2 ^ n - 0 < N := by omega
          have i3 : (0 : Int) ≤ 1000000 * ((0 : Nat) : Int) := by omega
          obtain ⟨a, s', e4, e5, a0, a1, c2⟩ := ol N 0 0 s N i1 i2 i2 (Int.le_refl 0) i3 cc l3
          have t := s_ten n (by omega)
          obtain ⟨g, e6, g0, e7, n1, n2⟩ := p_lowest N (by omega) a (10 ^ n) x4 (by omega) (by omega) (by omega)
          have e8 := p6_power N n (by omega) N 0 (by omega) (by omega)
          rw [Int.pow_zero] at e8
          rw [if_pos h4, if_pos p_t1, if_pos p_t1, m_X5_wetBehindHours, p_copyNow, p_b3, e1', p_b4, p_b5, show m_X5_sun_l1 N n b x3 N 0 0 = _ from e4, p_b1, p_power N (by omega) 10 (by omega) n (by omega), p_b1, e7, p_b1]
          rw [e3, p_b1, show m_X6_sun_l1 N n N 1 0 = _ from e8, p_b1, show m_X6_sun_l2 N n x3 told x1 held' N 0 0 s = _ from e5, p_b2, e6, p_b1]
          by_cases h0 : x4 ≠ 0
          · rw [if_pos h0, if_pos h0, z_chk_pos (by omega), z_chk_pos n2]
            exact ⟨_, _, _, _, rfl, rfl, c2⟩
          · rw [if_neg h0, if_neg h0, z_chk_pos (by omega), z_chk_pos n1]
            exact ⟨_, _, _, _, rfl, rfl, c2⟩
        · rw [if_neg h4, if_neg p_f0, if_neg p_f0]
          exact ⟨_, _, _, _, rfl, rfl, cc⟩
      · rw [if_neg h3, if_pos p_t0, if_pos p_t0]
        exact ⟨_, _, _, _, rfl, rfl, cc⟩
    · rw [if_neg h2, if_pos p_t0, if_pos p_t0]
      exact ⟨_, _, _, _, rfl, rfl, cc⟩
  · rw [if_neg (show ¬(0 ≤ x1 ∧ x1 < R * C ∧ x1 < 36) by omega), if_neg hx, if_pos p_t0, if_pos p_t0]
    exact ⟨_, _, _, _, rfl, rfl, cc⟩
