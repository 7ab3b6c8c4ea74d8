/-! water: rain, hours, sums -/
def s_upto (F D : Int → Int) (x0 : Int) : Int → Int := fun y => if 0 ≤ y ∧ y < x0 then F y else D y
theorem s_upto_0 (F D : Int → Int) : s_upto F D 0 = D := by
  funext y
  unfold s_upto
  rw [if_neg (by omega)]
theorem s_upto_at (F D : Int → Int) (x : Int) : s_upto F D x x = D x := if_neg (by omega)
theorem s_upto_up (F D : Int → Int) (x v : Int) (hx : 0 ≤ x) (hv : v = F x) : z_up (s_upto F D x) x v = s_upto F D (x + 1) := by
  funext y
  unfold z_up s_upto
  by_cases h : y = x
  · subst h
    rw [if_pos rfl, if_pos (by omega), hv]
  · rw [if_neg h]
    by_cases h2 : 0 ≤ y ∧ y < x
    · rw [if_pos h2, if_pos (by omega)]
    · rw [if_neg h2, if_neg (by omega)]
theorem s_upto_skip (F D : Int → Int) (x : Int) (hx : 0 ≤ x) (hv : F x = D x) : s_upto F D x = s_upto F D (x + 1) := by
  funext y
  unfold s_upto
  by_cases h : y = x
  · subst h
    rw [if_neg (by omega), if_pos (by omega), hv]
  · by_cases h2 : 0 ≤ y ∧ y < x
    · rw [if_pos h2, if_pos (by omega)]
    · rw [if_neg h2, if_neg (by omega)]
def s_pF (K : Int → Int) (k : Int) (D : Int → Int) (x : Int) : Int := if K x ≠ 3 ∧ K x ≠ 2 then (if 60 < D x + k then 60 else D x + k) else D x
def s_prD (n : Int) (K : Int → Int) (k : Int) (D : Int → Int) : Int → Int := s_upto (s_pF K k D) D n
def s_pour (n : Int) (nb : Int → Int → Int) (K h : Int → Int) (k : Int) (D : Int → Int) : Int → Int := s_flow n nb K h (s_prD n K k D)
theorem s_prD_ok (n : Int) (K h D : Int → Int) (k : Int) (hk : 0 ≤ k ∧ k ≤ 60) (hok : s_ok n K h D) : s_ok n K h (s_prD n K k D) := by
  intro x a b
  have q := hok x a b
  unfold s_prD s_upto s_pF
  refine ⟨q.1, ?_, ?_⟩ <;> grind
theorem p_pour_l1 (N : Nat) (n : Int) (K D : Int → Int) (k : Int) (hn : 0 ≤ n ∧ n ≤ 36) (hk : 0 ≤ k ∧ k ≤ 60) (hD : ∀ x, 0 ≤ x → x < 36 → 0 ≤ D x ∧ D x ≤ 60) : ∀ (f : Nat) (x : Int), 0 ≤ x → x ≤ n → (n - x).toNat < f → m_X4_pour_l1 N n K k f x (s_upto (s_pF K k D) D x) = some (s_prD n K k D) := by
  intro f
  induction f with
  | zero => intro x _ _ hf; omega
  | succ f ih =>
    intro x g0 g1 hf
    rw [m_X4_pour_l1]
    by_cases hc : n ≤ x
    · rw [if_pos hc]
      have : x = n := by omega
      subst this
      rfl
    · have q := hD x g0 (by omega)
      rw [if_neg hc, if_neg (by omega), s_upto_at]
      by_cases ho : K x ≠ 3 ∧ K x ≠ 2
      · have e0 : m_X0_takesRain N n K x = some 1 := by rw [p_takesRain, if_pos ⟨by omega, by omega, by omega, ho.1, ho.2⟩]
        rw [e0, p_b1, if_neg (by decide), z_chk_pos (by omega), z_chk_pos (by omega), z_chk_pos (by omega), z_chk_pos (by omega), s_upto_up _ _ _ _ g0 (by unfold s_pF z_min; rw [if_pos ho]; split <;> split <;> omega)]
        exact ih (x + 1) (by omega) (by omega) (by omega)
      · have e0 : m_X0_takesRain N n K x = some 0 := by rw [p_takesRain, if_neg (fun z => ho ⟨z.2.2.2.1, z.2.2.2.2⟩)]
        rw [e0, p_b1, if_pos rfl, z_chk_pos (by omega), s_upto_skip _ _ _ g0 (by unfold s_pF; rw [if_neg ho])]
        exact ih (x + 1) (by omega) (by omega) (by omega)
theorem p_pour (N : Nat) (hN : 1000000 ≤ N) (n : Int) (nb : Int → Int → Int) (K h D be : Int → Int) (bb : Int → Int64) (hE : s_env n nb K) (hok : s_ok n K h D) (hg : s_gb n nb be bb) (r : Int64) (k : Int) (hk : 0 ≤ k ∧ k ≤ 60) : ∃ r', m_X4_pour N h D r n K be bb k = some (s_pour n nb K h k D, r') := by
  have e := p_pour_l1 N n K D k hE.1 hk (fun x a b => (hok x a b).2.1) N 0 (by omega) (by have := hE.1; omega) (by have := hE.1; omega)
  rw [s_upto_0] at e
  obtain ⟨r', e2⟩ := p_flow N hN n nb K h _ be bb hE (s_prD_ok n K h D k hk hok) hg r
  exact ⟨r', by rw [m_X4_pour, e, p_b1, e2, p_b2]; rfl⟩
theorem p6_isOpen (N : Nat) (K t : Int → Int) (hK : ∀ i, 0 ≤ i → i < 36 → t (3 + i) = K i) (x : Int) (hx : 0 ≤ x ∧ x < 36) : m_X6_isOpen N t x = some (if K x ≠ 3 ∧ K x ≠ 2 then 1 else 0) := by
  unfold m_X6_isOpen
  rw [z_chk_pos (by omega), z_chk_pos (by omega), z_chk_pos (by omega), z_chk_pos (by omega), hK x hx.1 hx.2]
  grind
theorem s_ag_up (s h D : Int → Int) (hr x v w : Int) (ha : s_ag s h D hr) (hx : 0 ≤ x ∧ x < 36) (hv : v = w) : s_ag (z_up s x v) h (z_up D x w) hr := by
  subst hv
  refine ⟨fun y a b => ?_, fun y a b => ?_, ?_⟩
  · unfold z_up
    by_cases h1 : y = x
    · rw [if_pos h1, if_pos h1]
    · rw [if_neg h1, if_neg h1]; exact ha.1 y a b
  · unfold z_up
    rw [if_neg (by omega)]; exact ha.2.1 y a b
  · unfold z_up
    rw [if_neg (by omega)]; exact ha.2.2
theorem p6_pours_l1 (N : Nat) (R C hr : Int) (K t h D : Int → Int) (ht : s_tk R C K t) (hok : s_ok (R * C) K h D) (k : Int) (hk : 0 ≤ k ∧ k ≤ 60) : ∀ (f : Nat) (x : Int) (s : Int → Int), 0 ≤ x → x ≤ R * C → (R * C - x).toNat < f → s_ag s h (s_upto (s_pF K k D) D x) hr → ∃ s', m_X6_pours_l1 N t k f x s = some s' ∧ s_ag s' h (s_prD (R * C) K k D) hr := by
  have hn := s_dim_n ht.1
  intro f
  induction f with
  | zero => intro x s _ _ hf; omega
  | succ f ih =>
    intro x s g0 g1 hf ha
    rw [m_X6_pours_l1, p6_cells N ht, p_b1]
    by_cases hc : R * C ≤ x
    · rw [if_pos hc]
      have : x = R * C := by omega
      subst this
      exact ⟨s, rfl, ha⟩
    · have q := hok x g0 (by omega)
      have sx := ha.1 x g0 (by omega)
      rw [s_upto_at] at sx
      rw [if_neg hc, p6_isOpen N K t ht.2.2.2 x ⟨g0, by omega⟩, p_b1, sx]
      by_cases ho : K x ≠ 3 ∧ K x ≠ 2
      · rw [if_pos ho, if_pos (by decide), z_chk_pos (by omega), z_chk_pos (by omega)]
        have up : ∀ v, v = s_pF K k D x → s_ag (z_up s x v) h (s_upto (s_pF K k D) D (x + 1)) hr := fun v hv => by
          rw [← s_upto_up _ _ _ _ g0 hv]
          exact s_ag_up _ _ _ _ _ _ _ ha ⟨g0, by omega⟩ rfl
        by_cases h6 : D x + k ≤ 60
        · rw [if_pos h6, z_chk_pos (by omega), z_chk_pos (by omega), z_chk_pos (by omega), z_chk_pos (by omega)]
          exact ih (x + 1) _ (by omega) (by omega) (by omega) (up _ (by unfold s_pF; rw [if_pos ho, if_neg (by omega)]))
        · rw [if_neg h6, z_chk_pos (by omega), z_chk_pos (by omega)]
          exact ih (x + 1) _ (by omega) (by omega) (by omega) (up _ (by unfold s_pF; rw [if_pos ho, if_pos (by omega)]))
      · rw [if_neg ho, if_neg (by decide), z_chk_pos (by omega), z_chk_pos (by omega)]
        refine ih (x + 1) _ (by omega) (by omega) (by omega) ?_
        have hz : D x = 0 := q.2.2 (by omega)
        have e : s_pF K k D x = D x := by unfold s_pF; rw [if_neg ho]
        rw [← s_upto_up (s_pF K k D) D x 0 g0 (by rw [e, hz])]
        exact s_ag_up _ _ _ _ _ _ _ ha ⟨g0, by omega⟩ rfl
theorem p6_pours (N : Nat) (hN : 1000000 ≤ N) (R C hr : Int) (K t s h D : Int → Int) (ht : s_tk R C K t) (ha : s_ag s h D hr) (hok : s_ok (R * C) K h D) (k : Int) (hk : 0 ≤ k ∧ k ≤ 60) : ∃ s', m_X6_pours N t s k = some s' ∧ s_ag s' h (s_pour (R * C) (s_nb R C K) K h k D) hr := by
  have hn := s_dim_n ht.1
  obtain ⟨s1, e1, a1⟩ := p6_pours_l1 N R C hr K t h D ht hok k hk N 0 s (by omega) (by omega) (by omega) (by rw [s_upto_0]; exact ha)
  obtain ⟨s2, e2, a2⟩ := p6_flows N hN R C hr K t s1 h _ ht a1 (s_prD_ok _ K h D k hk hok)
  exact ⟨s2, by rw [m_X6_pours, e1, p_b1, e2, p_b1], a2⟩
/-! an hour of sun -/
def s_dF (K : Int → Int) (hr : Int) (D : Int → Int) (x : Int) : Int := if 0 < D x ∧ (K x ≠ 1 ∨ hr % 2 = 0) then D x - 1 else D x
def s_mF (K : Int → Int) (D : Int → Int) (x : Int) : Int := if K x = 4 ∧ D x < 60 then D x + 1 else D x
def s_hF (K : Int → Int) (hr : Int) (D : Int → Int) (x : Int) : Int := s_mF K (s_dF K hr D) x
def s_hrD (n : Int) (K : Int → Int) (hr : Int) (D : Int → Int) : Int → Int := s_upto (s_hF K hr D) D n
/-- the hour that begins when hr have gone by -/
def s_hour (n : Int) (nb : Int → Int → Int) (K h : Int → Int) (hr : Int) (D : Int → Int) : Int → Int := s_flow n nb K h (s_hrD n K (hr + 1) D)
def s_hs (n : Int) (nb : Int → Int → Int) (K h : Int → Int) (hr : Int) : Nat → (Int → Int) → (Int → Int)
  | 0, D => D
  | j + 1, D => s_hour n nb K h (hr + j) (s_hs n nb K h hr j D)
theorem s_hrD_ok (n : Int) (K h D : Int → Int) (hr : Int) (hok : s_ok n K h D) : s_ok n K h (s_hrD n K hr D) := by
  intro x a b
  have q := hok x a b
  unfold s_hrD s_upto s_hF s_mF s_dF
  refine ⟨q.1, ?_, ?_⟩ <;> grind
theorem s_hour_ok (n : Int) (nb : Int → Int → Int) (K h D : Int → Int) (hr : Int) (hE : s_env n nb K) (hok : s_ok n K h D) : s_ok n K h (s_hour n nb K h hr D) := s_flow_ok n nb K h _ hE (s_hrD_ok n K h D _ hok)
theorem s_hs_ok (n : Int) (nb : Int → Int → Int) (K h D : Int → Int) (hr : Int) (hE : s_env n nb K) (hok : s_ok n K h D) : ∀ j : Nat, s_ok n K h (s_hs n nb K h hr j D)
  | 0 => hok
  | j + 1 => s_hour_ok n nb K h _ _ hE (s_hs_ok n nb K h D hr hE hok j)
theorem s_pour_ok (n : Int) (nb : Int → Int → Int) (K h D : Int → Int) (k : Int) (hk : 0 ≤ k ∧ k ≤ 60) (hE : s_env n nb K) (hok : s_ok n K h D) : s_ok n K h (s_pour n nb K h k D) := s_flow_ok n nb K h _ hE (s_prD_ok n K h D k hk hok)
theorem p_passHour_l1 (N : Nat) (n : Int) (K D : Int → Int) (hr b : Int) (hn : 0 ≤ n ∧ n ≤ 36) (hb : b = if hr % 2 = 0 then 1 else 0) (hD : ∀ x, 0 ≤ x → x < 36 → 0 ≤ D x ∧ D x ≤ 60) : ∀ (f : Nat) (x : Int), 0 ≤ x → x ≤ n → (n - x).toNat < f → m_X4_passHour_l1 N n b K f x (s_upto (s_hF K hr D) D x) = some (s_hrD n K hr D) := by
  intro f
  induction f with
  | zero => intro x _ _ hf; omega
  | succ f ih =>
    intro x g0 g1 hf
    rw [m_X4_passHour_l1]
    by_cases hc : n ≤ x
    · rw [if_pos hc]
      have : x = n := by omega
      subst this
      rfl
    · have q := hD x g0 (by omega)
      rw [if_neg hc, if_neg (by omega), z_chk_pos (by omega), s_upto_at, p_isKind, p_isKind]
      have hk1 : (0 ≤ x ∧ x < n ∧ x < 36 ∧ K x = 1) ↔ K x = 1 := by omega
      have hk4 : (0 ≤ x ∧ x < n ∧ x < 36 ∧ K x = 4) ↔ K x = 4 := by omega
      simp only [hk1, hk4]
      have hup : ∀ y, 0 ≤ y → y < 36 → 0 ≤ s_upto (s_hF K hr D) D x y ∧ s_upto (s_hF K hr D) D x y ≤ 60 := fun y a c => by
        have := hD y a c
        unfold s_upto s_hF s_mF s_dF
        grind
      have mid : ∀ (d : Int → Int), d = (z_up (s_upto (s_hF K hr D) D x) x (s_dF K hr D x)) → (z_b1 (some (if K x = 4 then (1 : Int) else 0)) fun (r22 : Int) => if r22 = 0 then z_chk (z_n (x + 1)) (m_X4_passHour_l1 N n b K f (x + 1) d) else z_b1 (m_X4_putDrop N d n K x) fun (t_drops_26 : Int → Int) => z_chk (z_n (x + 1)) (m_X4_passHour_l1 N n b K f (x + 1) t_drops_26)) = some (s_hrD n K hr D) := by
        intro d hd
        have dx : d x = s_dF K hr D x := by rw [hd]; simp [z_up]
        rw [p_b1]
        by_cases h4 : K x = 4
        · rw [if_pos h4, if_neg (by decide), p_putDrop N d n K x (fun y a c => by
            rw [hd]
            unfold z_up
            by_cases hy : y = x
            · rw [if_pos hy]; unfold s_dF; grind
            · rw [if_neg hy]; exact hup y a c), p_b1, z_chk_pos (by omega)]
          have ex : (if 0 ≤ x ∧ x < n ∧ x < 36 ∧ K x ≠ 3 ∧ K x ≠ 2 ∧ d x < 60 then z_up d x (d x + 1) else d) = s_upto (s_hF K hr D) D (x + 1) := by
            by_cases h6 : d x < 60
            · rw [if_pos (by omega), ← s_upto_up _ _ _ (s_hF K hr D x) g0 rfl, hd]
              have e1 : s_hF K hr D x = s_dF K hr D x + 1 := by
                unfold s_hF s_mF
                rw [if_pos ⟨h4, by omega⟩]
              rw [e1]
              funext y
              unfold z_up
              grind
            · rw [if_neg (by omega), ← s_upto_up _ _ _ (s_hF K hr D x) g0 rfl, hd]
              have e1 : s_hF K hr D x = s_dF K hr D x := by
                unfold s_hF s_mF
                rw [if_neg (by omega)]
              rw [e1]
          rw [ex]
          exact ih (x + 1) (by omega) (by omega) (by omega)
        · rw [if_neg h4, if_pos rfl, z_chk_pos (by omega)]
          have e1 : s_hF K hr D x = s_dF K hr D x := by
            unfold s_hF s_mF
            rw [if_neg (by omega)]
          rw [hd, s_upto_up _ _ _ _ g0 e1.symm]
          exact ih (x + 1) (by omega) (by omega) (by omega)
      by_cases hd : D x ≤ 0
      · rw [if_pos hd, p_b1]
        refine mid _ ?_
        have : s_dF K hr D x = D x := by unfold s_dF; rw [if_neg (by omega)]
        rw [this]
        funext y
        unfold z_up
        by_cases hy : y = x
        · rw [if_pos hy, hy, s_upto_at]
        · rw [if_neg hy]
      · rw [if_neg hd]
        by_cases h2 : hr % 2 = 0
        · rw [if_pos h2] at hb
          rw [hb, if_pos (by decide), z_chk_pos (by omega), z_chk_pos (by omega), z_chk_pos (by omega), p_b1]
          rw [hb] at mid
          exact mid _ (by unfold s_dF; rw [if_pos ⟨by omega, Or.inr h2⟩])
        · rw [if_neg h2] at hb
          rw [hb, if_neg (by decide)]
          rw [hb] at mid
          by_cases h1 : K x = 1
          · rw [if_pos h1, p_b1, if_pos (by decide), p_b1]
            refine mid _ ?_
            have : s_dF K hr D x = D x := by unfold s_dF; rw [if_neg (by omega)]
            rw [this]
            funext y
            unfold z_up
            by_cases hy : y = x
            · rw [if_pos hy, hy, s_upto_at]
            · rw [if_neg hy]
          · rw [if_neg h1, p_b1, if_neg (by decide), z_chk_pos (by omega), z_chk_pos (by omega), z_chk_pos (by omega), p_b1]
            exact mid _ (by unfold s_dF; rw [if_pos ⟨by omega, Or.inl h1⟩])
theorem p_passHour (N : Nat) (hN : 1000000 ≤ N) (n : Int) (nb : Int → Int → Int) (K h D be : Int → Int) (bb : Int → Int64) (hE : s_env n nb K) (hok : s_ok n K h D) (hg : s_gb n nb be bb) (r : Int64) (hr : Int) (hh : 0 ≤ hr ∧ hr ≤ 1000000) : ∃ r', m_X4_passHour N h D hr r n K be bb = some (s_hour n nb K h hr D, hr + 1, r') := by
  have et : Int.tmod (hr + 1) 2 = (hr + 1) % 2 := Int.tmod_eq_emod_of_nonneg (by omega)
  have e := p_passHour_l1 N n K D (hr + 1) (if (hr + 1) % 2 = 0 then 1 else 0) hE.1 rfl (fun x a b => (hok x a b).2.1) N 0 (by omega) (by have := hE.1; omega) (by have := hE.1; omega)
  rw [s_upto_0] at e
  obtain ⟨r', e2⟩ := p_flow N hN n nb K h _ be bb hE (s_hrD_ok n K h D (hr + 1) hok) hg r
  refine ⟨r', ?_⟩
  rw [m_X4_passHour, et, z_chk_pos (by omega), z_chk_pos (by omega)]
  have eb : (if (hr + 1) % 2 ≠ 0 then some (0 : Int) else some 1) = some (if (hr + 1) % 2 = 0 then 1 else 0) := by
    by_cases hp : (hr + 1) % 2 = 0
    · rw [if_neg (fun z => z hp), if_pos hp]
    · rw [if_pos hp, if_neg hp]
  rw [eb, p_b1, e, p_b1, e2, p_b2]
  rfl
