/-! states: what is read off, and the reference's way -/
theorem p_stateOf (N : Nat) (L : Int → Int) (n x : Int) : m_X2_stateOf N L n x = some (if 0 ≤ x ∧ x < n ∧ x < 36 then L x else -4) := by
  unfold m_X2_stateOf
  grind (splits := 40) [z_chk]
theorem p_sizeAt_l1 (N : Nat) (n c : Int) (L : Int → Int) (hn : 0 ≤ n ∧ n ≤ 36) (hc : c ≠ -4) : ∀ (f : Nat) (x : Nat), (x : Int) ≤ n → (n - x).toNat < f → m_X2_sizeAt_l1 N n c L f (s_ct L c x) x = some (s_ct L c n.toNat) := by
  intro f
  induction f with
  | zero => intro x _ hf; omega
  | succ f ih =>
    intro x g1 hf
    rw [m_X2_sizeAt_l1]
    by_cases h : n ≤ x
    · rw [if_pos h, show n.toNat = x by omega]
    · have b := s_ct_b L c x
      have go := ih (x + 1) (by omega) (by omega)
      rw [s_ct, show ((x + 1 : Nat) : Int) = (x : Int) + 1 from rfl] at go
      rw [if_neg h, if_neg hc, p_stateOf, if_pos (by omega), p_b1]
      by_cases q : L x = c
      · rw [if_pos q] at go
        rw [if_neg (fun z => z q), z_chk_pos (by omega), z_chk_pos (by omega)]
        exact go
      · rw [if_neg q, Int.add_zero] at go
        rw [if_pos q, z_chk_pos (by omega)]
        exact go
theorem p_sizeAt (N : Nat) (hN : 100 ≤ N) (n x : Int) (L : Int → Int) (hn : 0 ≤ n ∧ n ≤ 36) (hx : 0 ≤ x ∧ x < n) : m_X2_sizeAt N L n x = some (if L x = -4 then 0 else s_ct L (L x) n.toNat) := by
  rw [m_X2_sizeAt, p_stateOf, if_pos (by omega), p_b1]
  by_cases q : L x = -4
  · obtain ⟨M, rfl⟩ : ∃ M, N = M + 1 := ⟨N - 1, by omega⟩
    rw [if_pos q, m_X2_sizeAt_l1, if_neg (by omega), if_pos q, p_b1]
  · rw [if_neg q, show m_X2_sizeAt_l1 N n (L x) L N 0 0 = _ from p_sizeAt_l1 N n (L x) L hn q N 0 (by omega) (by omega), p_b1]
/-- the deepest of the first k that have the label c -/
def s_mx (L D : Int → Int) (c : Int) : Nat → Int
  | 0 => 0
  | k + 1 => if L k = c ∧ s_mx L D c k < D k then D k else s_mx L D c k
theorem s_mx_same (L L' D : Int → Int) (c : Int) : ∀ k : Nat, (∀ y : Int, 0 ≤ y → y < k → (L y = c ↔ L' y = c)) → s_mx L D c k = s_mx L' D c k
  | 0, _ => rfl
  | k + 1, h => by
    have := s_mx_same L L' D c k (fun y a b => h y a (by omega))
    have e := h k (by omega) (by omega)
    rw [s_mx, s_mx, this]
    grind
theorem p_depthAt_l1 (N : Nat) (n c : Int) (L D : Int → Int) (hn : 0 ≤ n ∧ n ≤ 36) (hc : c ≠ -4) : ∀ (f : Nat) (x : Nat), (x : Int) ≤ n → (n - x).toNat < f → m_X2_depthAt_l1 N n c L D f (s_mx L D c x) x = some (s_mx L D c n.toNat) := by
  intro f
  induction f with
  | zero => intro x _ hf; omega
  | succ f ih =>
    intro x g1 hf
    rw [m_X2_depthAt_l1]
    by_cases h : n ≤ x
    · rw [if_pos h, show n.toNat = x by omega]
    · have go := ih (x + 1) (by omega) (by omega)
      rw [s_mx, show ((x + 1 : Nat) : Int) = (x : Int) + 1 from rfl] at go
      rw [if_neg h, if_neg (by omega), if_neg hc, z_chk_pos (by omega)]
      by_cases q : L x = c
      · have e : z_max (s_mx L D c x) (D x) = if L x = c ∧ s_mx L D c x < D x then D x else s_mx L D c x := by
          unfold z_max
          clear go ih hf
          by_cases w : s_mx L D c x < D x
          · rw [if_pos w, if_pos ⟨q, w⟩]
          · rw [if_neg w, if_neg (fun z => w z.2)]
        rw [if_neg (fun z => z q), z_chk_pos (by omega), z_chk_pos (by omega), e]
        exact go
      · rw [if_neg (fun z => q z.1)] at go
        rw [if_pos q, z_chk_pos (by omega)]
        exact go
theorem p_depthAt (N : Nat) (hN : 100 ≤ N) (n x : Int) (L D : Int → Int) (hn : 0 ≤ n ∧ n ≤ 36) (hx : 0 ≤ x ∧ x < n) : m_X2_depthAt N L n D x = some (if L x = -4 then 0 else s_mx L D (L x) n.toNat) := by
  rw [m_X2_depthAt, p_stateOf, if_pos (by omega), p_b1]
  by_cases q : L x = -4
  · obtain ⟨M, rfl⟩ : ∃ M, N = M + 1 := ⟨N - 1, by omega⟩
    rw [if_pos q, m_X2_depthAt_l1, if_neg (by omega), if_neg (by omega), if_pos q, p_b1]
  · rw [if_neg q, show m_X2_depthAt_l1 N n (L x) L D N 0 0 = _ from p_depthAt_l1 N n (L x) L D hn q N 0 (by omega) (by omega), p_b1]
theorem p_apart (N : Nat) (n x y : Int) (L : Int → Int) (hn : 0 ≤ n ∧ n ≤ 36) (hx : 0 ≤ x ∧ x < n) (hy : 0 ≤ y ∧ y < n) : m_X2_apart N L n x y = some (if L x ≠ -4 ∧ L x = L y then 0 else 1) := by
  rw [m_X2_apart, p_stateOf, p_stateOf, if_pos (by omega), if_pos (by omega), p_b1, p_b1, p_b1]
  by_cases q : L x = -4
  · rw [if_pos q, if_neg (fun z => z.1 q)]
  · rw [if_neg q]
    by_cases q2 : L x = L y
    · rw [if_pos q2, if_pos ⟨q, q2⟩]
    · rw [if_neg q2, if_neg (fun z => q2 z.2)]
/-! the reference -/
theorem p6_lays_l1 (N : Nat) (R C hr : Int) (K t s h D : Int → Int) (ht : s_tk R C K t) (ha : s_ag s h D hr) : ∀ (f : Nat) (x : Int) (T : Int → Int), 0 ≤ x → x ≤ R * C → (R * C - x).toNat < f → (∀ y, 0 ≤ y → y < x → T y = if D y ≤ 0 then -1 else y) → ∃ T', m_X6_laysStates_l1 N t s f x T = some T' ∧ ∀ y, 0 ≤ y → y < R * C → T' y = if D y ≤ 0 then -1 else y := by
  have hn := s_dim_n ht.1
  intro f
  induction f with
  | zero => intro x T _ _ hf; omega
  | succ f ih =>
    intro x T g0 g1 hf hT
    rw [m_X6_laysStates_l1, p6_cells N ht, p_b1]
    by_cases hc : R * C ≤ x
    · rw [if_pos hc]
      exact ⟨T, rfl, fun y a b => hT y a (by omega)⟩
    · rw [if_neg hc, z_chk_pos (by omega), ha.1 x g0 (by omega)]
      have go : ∀ v, v = (if D x ≤ 0 then -1 else x) → ∀ y, 0 ≤ y → y < x + 1 → z_up T x v y = if D y ≤ 0 then -1 else y := fun v hv y a b => by
        unfold z_up
        by_cases q : y = x
        · rw [if_pos q, hv, q]
        · rw [if_neg q]; exact hT y a (by omega)
      by_cases hd : D x ≤ 0
      · rw [if_pos hd, z_chk_pos (by omega), z_chk_pos (by omega)]
        exact ih (x + 1) _ (by omega) (by omega) (by omega) (go _ (by rw [if_pos hd]))
      · rw [if_neg hd, z_chk_pos (by omega), z_chk_pos (by omega)]
        exact ih (x + 1) _ (by omega) (by omega) (by omega) (go _ (by rw [if_neg hd]))
def s_pl (n : Int) (nb : Int → Int → Int) (D T : Int → Int) : Prop := ∀ x, 0 ≤ x → x < n → (D x ≤ 0 → T x = -1) ∧ (0 < D x → 0 ≤ T x ∧ T x ≤ x ∧ 0 < D (T x) ∧ s_cn nb D (T x) x)
def s_le (nb : Int → Int → Int) (D T : Int → Int) (x s : Int) : Prop := 0 < D x → 0 ≤ nb x s → 0 < D (nb x s) → T x ≤ T (nb x s)
theorem s_sum_up (T : Int → Int) (x v : Int) (hx : 0 ≤ x) : ∀ k : Nat, s_sum (z_up T x v) k = s_sum T k + (if x < k then v - T x else 0)
  | 0 => by rw [s_sum, s_sum, if_neg (by omega)]; rfl
  | k + 1 => by
    rw [s_sum, s_sum, s_sum_up T x v hx k]
    unfold z_up
    grind
theorem s_sum_pl (n : Int) (nb : Int → Int → Int) (D T : Int → Int) (hn : n ≤ 36) (h : s_pl n nb D T) : ∀ k : Nat, (k : Int) ≤ n → -(k : Int) ≤ s_sum T k ∧ s_sum T k ≤ 36 * k
  | 0, _ => by rw [s_sum]; omega
  | k + 1, hk => by
    have := s_sum_pl n nb D T hn h k (by omega)
    have q := h k (by omega) (by omega)
    rw [s_sum]
    by_cases w : D k ≤ 0
    · have := q.1 w; omega
    · have := q.2 (by omega); omega
theorem p6_lays_l4 (N : Nat) (R C : Int) (K t D : Int → Int) (ht : s_tk R C K t) (hG : s_gr (R * C) (s_nb R C K) D) (x : Int) (hx : 0 ≤ x ∧ x < R * C) (T0 : Int → Int) : ∀ (f : Nat) (m v : Int) (T : Int → Int), 0 ≤ v → v ≤ 4 → (4 - v).toNat < f → s_pl (R * C) (s_nb R C K) D T → ((m = 1 ∧ s_sum T (R * C).toNat + 1 ≤ s_sum T0 (R * C).toNat) ∨ (m = 0 ∧ T = T0 ∧ ∀ s, 0 ≤ s → s < v → s_le (s_nb R C K) D T0 x s)) → ∃ m' T', m_X6_laysStates_l4 N x t f m v T = some (m', T') ∧ s_pl (R * C) (s_nb R C K) D T' ∧ ((m' = 1 ∧ s_sum T' (R * C).toNat + 1 ≤ s_sum T0 (R * C).toNat) ∨ (m' = 0 ∧ m = 0 ∧ T' = T0 ∧ ∀ s, 0 ≤ s → s ≤ 3 → s_le (s_nb R C K) D T0 x s)) := by
  have hn := s_dim_n ht.1
  intro f
  induction f with
  | zero => intro m v T _ _ hf; omega
  | succ f ih =>
    intro m v T g0 g1 hf hp hm
    rw [m_X6_laysStates_l4]
    by_cases hc : 4 ≤ v
    · rw [if_pos hc]
      exact ⟨m, T, rfl, hp, hm.imp id (fun q => ⟨q.1, q.1, q.2.1, fun s a b => q.2.2 s a (by omega)⟩)⟩
    · rw [if_neg hc, z_chk_pos (by omega)]
      have px := hp x hx.1 hx.2
      by_cases hd : T x < 0
      · rw [if_pos hd]
        refine ⟨m, T, rfl, hp, hm.imp id (fun q => ⟨q.1, q.1, q.2.1, fun s a b d => ?_⟩)⟩
        have := px.2 d
        omega
      · have hdx : 0 < D x := by
          by_cases w : D x ≤ 0
          · have := px.1 w; omega
          · omega
        have nbv := hG.2.1 x v
        have skip : s_le (s_nb R C K) D T x v → ∃ m' T', m_X6_laysStates_l4 N x t f m (v + 1) T = some (m', T') ∧ s_pl (R * C) (s_nb R C K) D T' ∧ ((m' = 1 ∧ s_sum T' (R * C).toNat + 1 ≤ s_sum T0 (R * C).toNat) ∨ (m' = 0 ∧ m = 0 ∧ T' = T0 ∧ ∀ s, 0 ≤ s → s ≤ 3 → s_le (s_nb R C K) D T0 x s)) := fun hs => by
          refine ih m (v + 1) T (by omega) (by omega) (by omega) hp (hm.imp id (fun q => ⟨q.1, q.2.1, fun s a b => ?_⟩))
          by_cases e : s = v
          · rw [e, ← q.2.1]; exact hs
          · exact q.2.2 s a (by omega)
        rw [if_neg hd, p6_nb N ht x v hx (by omega), p_b1]
        by_cases hy : s_nb R C K x v < 0
        · rw [if_pos hy, z_chk_pos (by omega)]
          exact skip (fun _ q => by omega)
        · have py := hp (s_nb R C K x v) (by omega) (by omega)
          rw [if_neg hy, z_chk_pos (by omega)]
          by_cases hdy : T (s_nb R C K x v) < 0
          · rw [if_pos hdy, z_chk_pos (by omega)]
            exact skip (fun _ _ q => by have := py.2 q; omega)
          · have hdy2 : 0 < D (s_nb R C K x v) := by
              by_cases w : D (s_nb R C K x v) ≤ 0
              · have := py.1 w; omega
              · omega
            rw [if_neg hdy, z_chk_pos (by omega), z_chk_pos (by omega)]
            by_cases hl : T x ≤ T (s_nb R C K x v)
            · rw [if_pos hl, z_chk_pos (by omega)]
              exact skip (fun _ _ _ => hl)
            · rw [if_neg hl, z_chk_pos (by omega), z_chk_pos (by omega), z_chk_pos (by omega)]
              have su := s_sum_up T x (T (s_nb R C K x v)) hx.1 (R * C).toNat
              rw [if_pos (by omega)] at su
              have q := py.2 hdy2
              have qx := px.2 hdx
              obtain ⟨s', hs', e'⟩ := hG.2.2 x v hx.1 hx.2 hdx g0 (by omega) (by omega)
              have w1 : s_pl (R * C) (s_nb R C K) D (z_up T x (T (s_nb R C K x v))) := fun y a b => by
                unfold z_up
                by_cases e : y = x
                · rw [if_pos e, e]
                  refine ⟨fun w => by omega, fun _ => ⟨q.1, by omega, q.2.2.1, ?_⟩⟩
                  have st := s_cn_step q.2.2.2 hs' (by rw [e']; exact hx.1) (by rw [e']; exact hdx)
                  rw [e'] at st
                  exact st
                · rw [if_neg e]; exact hp y a b
              have w2 : s_sum (z_up T x (T (s_nb R C K x v))) (R * C).toNat + 1 ≤ s_sum T0 (R * C).toNat := by
                rcases hm with ⟨_, w⟩ | ⟨_, w, _⟩
                · omega
                · rw [w] at su hl ⊢
                  omega
              obtain ⟨m', T', e, hp', hm'⟩ := ih 1 (v + 1) _ (by omega) (by omega) (by omega) w1 (Or.inl ⟨rfl, w2⟩)
              refine ⟨m', T', e, hp', ?_⟩
              rcases hm' with w | ⟨_, w, _⟩
              · exact Or.inl w
              · omega
theorem p6_lays_l3 (N : Nat) (hN : 100 ≤ N) (R C : Int) (K t D : Int → Int) (ht : s_tk R C K t) (hG : s_gr (R * C) (s_nb R C K) D) (T0 : Int → Int) : ∀ (f : Nat) (m x : Int) (T : Int → Int), 0 ≤ x → x ≤ R * C → (R * C - x).toNat < f → s_pl (R * C) (s_nb R C K) D T → ((m = 1 ∧ s_sum T (R * C).toNat + 1 ≤ s_sum T0 (R * C).toNat) ∨ (m = 0 ∧ T = T0 ∧ ∀ y s, 0 ≤ y → y < x → 0 ≤ s → s ≤ 3 → s_le (s_nb R C K) D T0 y s)) → ∃ m' T', m_X6_laysStates_l3 N t f m x T = some (m', T') ∧ s_pl (R * C) (s_nb R C K) D T' ∧ ((m' = 1 ∧ s_sum T' (R * C).toNat + 1 ≤ s_sum T0 (R * C).toNat) ∨ (m' = 0 ∧ T' = T0 ∧ ∀ y s, 0 ≤ y → y < R * C → 0 ≤ s → s ≤ 3 → s_le (s_nb R C K) D T0 y s)) := by
  have hn := s_dim_n ht.1
  intro f
  induction f with
  | zero => intro m v T _ _ hf; omega
  | succ f ih =>
    intro m x T g0 g1 hf hp hm
    rw [m_X6_laysStates_l3, p6_cells N ht, p_b1]
    by_cases hc : R * C ≤ x
    · rw [if_pos hc]
      exact ⟨m, T, rfl, hp, hm.imp id (fun q => ⟨q.1, q.2.1, fun y s a b => q.2.2 y s a (by omega)⟩)⟩
    · rw [if_neg hc]
      rcases hm with w | ⟨w1, w2, w3⟩
      · obtain ⟨m', T', e, hp', hm'⟩ := p6_lays_l4 N R C K t D ht hG x (by omega) T0 N m 0 T (by omega) (by omega) (by omega) hp (Or.inl w)
        rw [e, p_b2, z_chk_pos (by omega)]
        refine ih m' (x + 1) T' (by omega) (by omega) (by omega) hp' ?_
        rcases hm' with q | ⟨_, q, _⟩
        · exact Or.inl q
        · omega
      · obtain ⟨m', T', e, hp', hm'⟩ := p6_lays_l4 N R C K t D ht hG x (by omega) T0 N m 0 T (by omega) (by omega) (by omega) hp (Or.inr ⟨w1, w2, fun s a b => by omega⟩)
        rw [e, p_b2, z_chk_pos (by omega)]
        refine ih m' (x + 1) T' (by omega) (by omega) (by omega) hp' (hm'.imp id (fun q => ⟨q.1, q.2.2.1, fun y s a b c d => ?_⟩))
        by_cases e : y = x
        · rw [e]; exact q.2.2.2 s c d
        · exact w3 y s a (by omega) c d
theorem p6_lays_l2 (N : Nat) (hN : 100 ≤ N) (R C : Int) (K t D : Int → Int) (ht : s_tk R C K t) (hG : s_gr (R * C) (s_nb R C K) D) : ∀ (f : Nat) (m : Int) (T : Int → Int), s_pl (R * C) (s_nb R C K) D T → ((m = 1 ∧ s_sum T (R * C).toNat + R * C + 2 ≤ f) ∨ (m = 0 ∧ 1 ≤ f ∧ ∀ y s, 0 ≤ y → y < R * C → 0 ≤ s → s ≤ 3 → s_le (s_nb R C K) D T y s)) → ∃ T', m_X6_laysStates_l2 N t f m T = some T' ∧ s_pl (R * C) (s_nb R C K) D T' ∧ ∀ y s, 0 ≤ y → y < R * C → 0 ≤ s → s ≤ 3 → s_le (s_nb R C K) D T' y s := by
  have hn := s_dim_n ht.1
  intro f
  induction f with
  | zero =>
    intro m T hp hm
    have b := s_sum_pl _ _ D T (by omega) hp (R * C).toNat (by omega)
    omega
  | succ f ih =>
    intro m T hp hm
    have b := s_sum_pl _ _ D T (by omega) hp (R * C).toNat (by omega)
    rw [m_X6_laysStates_l2]
    rcases hm with ⟨w1, w2⟩ | ⟨w1, w2, w3⟩
    · obtain ⟨m', T', e, hp', hm'⟩ := p6_lays_l3 N hN R C K t D ht hG T N 0 0 T (by omega) (by omega) (by omega) hp (Or.inr ⟨rfl, rfl, fun y s a b => by omega⟩)
      rw [if_neg (by omega), e, p_b2]
      refine ih m' T' hp' ?_
      rcases hm' with ⟨q, q2⟩ | ⟨q, q2, q3⟩
      · exact Or.inl ⟨q, by omega⟩
      · exact Or.inr ⟨q, by omega, by rw [q2]; exact q3⟩
    · rw [if_pos w1]
      exact ⟨T, rfl, hp, w3⟩
theorem p6_laysStates (N : Nat) (hN : 10000 ≤ N) (R C hr : Int) (K t s h D T : Int → Int) (ht : s_tk R C K t) (ha : s_ag s h D hr) (hG : s_gr (R * C) (s_nb R C K) D) : ∃ T', m_X6_laysStates N t s T = some T' ∧ s_lab (-1) (R * C) (s_nb R C K) D T' := by
  have hn := s_dim_n ht.1
  obtain ⟨T1, e1, h1⟩ := p6_lays_l1 N R C hr K t s h D ht ha N 0 T (by omega) (by omega) (by omega) (fun y a b => by omega)
  have p1 : s_pl (R * C) (s_nb R C K) D T1 := fun x a b => by
    rw [h1 x a b]
    by_cases w : D x ≤ 0
    · rw [if_pos w]; exact ⟨fun _ => rfl, fun q => by omega⟩
    · rw [if_neg w]; exact ⟨fun q => absurd q w, fun q => ⟨a, by omega, q, s_cn_refl _ _ _⟩⟩
  have b1 := s_sum_pl _ _ D T1 (by omega) p1 (R * C).toNat (by omega)
  obtain ⟨T2, e2, p2, l2⟩ := p6_lays_l2 N (by omega) R C K t D ht hG N 1 T1 p1 (Or.inl ⟨rfl, by omega⟩)
  refine ⟨T2, by rw [m_X6_laysStates, e1, p_b1, e2, p_b1], fun x a b => ⟨(p2 x a b).1, fun q => ⟨(p2 x a b).2 q, fun s c d g i => ?_⟩⟩⟩
  have l := l2 x s a b c d q g i
  obtain ⟨s', hs', e'⟩ := hG.2.2 x s a b q c d g
  have nbx := hG.2.1 x s
  have r := l2 (s_nb R C K x s) s' g (by omega) hs'.1 hs'.2 i (by rw [e']; exact a) (by rw [e']; exact q)
  rw [e'] at r
  omega
theorem p6_sizeOf_l1 (N : Nat) (R C c : Int) (K t T : Int → Int) (ht : s_tk R C K t) (hc : 0 ≤ c) : ∀ (f : Nat) (x : Nat), (x : Int) ≤ R * C → (R * C - x).toNat < f → m_X6_sizeOf_l1 N t c T f (s_ct T c x) x = some (s_ct T c (R * C).toNat) := by
  have hn := s_dim_n ht.1
  intro f
  induction f with
  | zero => intro x _ hf; omega
  | succ f ih =>
    intro x g1 hf
    rw [m_X6_sizeOf_l1, p6_cells N ht, p_b1]
    by_cases h : R * C ≤ x
    · rw [if_pos h, show (R * C).toNat = x by omega]
    · have b := s_ct_b T c x
      have go := ih (x + 1) (by omega) (by omega)
      rw [s_ct, show ((x + 1 : Nat) : Int) = (x : Int) + 1 from rfl] at go
      rw [if_neg h, if_neg (by omega), z_chk_pos (by omega)]
      by_cases q : T x = c
      · rw [if_pos q] at go
        rw [if_neg (fun z => z q), z_chk_pos (by omega), z_chk_pos (by omega)]
        exact go
      · rw [if_neg q] at go
        rw [if_pos q, z_chk_pos (by omega), z_chk_pos (by omega)]
        exact go
theorem p6_sizeOf_l1n (N : Nat) (R C c : Int) (K t T : Int → Int) (ht : s_tk R C K t) (hc : c < 0) : ∀ (f : Nat) (x : Int), 0 ≤ x → x ≤ R * C → (R * C - x).toNat < f → m_X6_sizeOf_l1 N t c T f 0 x = some 0 := by
  have hn := s_dim_n ht.1
  intro f
  induction f with
  | zero => intro x _ _ hf; omega
  | succ f ih =>
    intro x g0 g1 hf
    rw [m_X6_sizeOf_l1, p6_cells N ht, p_b1]
    by_cases h : R * C ≤ x
    · rw [if_pos h]
    · rw [if_neg h, if_pos hc, z_chk_pos (by omega), z_chk_pos (by omega)]
      exact ih (x + 1) (by omega) (by omega) (by omega)
theorem p6_sizeOf (N : Nat) (hN : 100 ≤ N) (R C c : Int) (K t T : Int → Int) (ht : s_tk R C K t) : m_X6_sizeOf N t T c = some (if c < 0 then 0 else s_ct T c (R * C).toNat) := by
  have hn := s_dim_n ht.1
  rw [m_X6_sizeOf]
  by_cases h : c < 0
  · rw [if_pos h, p6_sizeOf_l1n N R C c K t T ht h N 0 (by omega) (by omega) (by omega), p_b1]
  · rw [if_neg h, show m_X6_sizeOf_l1 N t c T N 0 0 = _ from p6_sizeOf_l1 N R C c K t T ht (by omega) N 0 (by omega) (by omega), p_b1]
theorem p6_cell_l1 (N : Nat) (R C hr x : Int) (K t s h D T : Int → Int) (ht : s_tk R C K t) (ha : s_ag s h D hr) (hx : 0 ≤ x ∧ x < R * C) : ∀ (f : Nat) (y : Nat), (y : Int) ≤ R * C → (R * C - y).toNat < f → m_X6_cell_l1 N t x T s f (if T x < 0 then 0 else s_mx T D (T x) y) y = some (if T x < 0 then 0 else s_mx T D (T x) (R * C).toNat) := by
  have hn := s_dim_n ht.1
  intro f
  induction f with
  | zero => intro x _ hf; omega
  | succ f ih =>
    intro y g1 hf
    rw [m_X6_cell_l1, p6_cells N ht, p_b1]
    by_cases h : R * C ≤ y
    · rw [if_pos h, show (R * C).toNat = y by omega]
    · have go := ih (y + 1) (by omega) (by omega)
      rw [s_mx, show ((y + 1 : Nat) : Int) = (y : Int) + 1 from rfl] at go
      rw [if_neg h, z_chk_pos (by omega)]
      by_cases hd : T x < 0
      · rw [if_pos hd] at go ⊢
        rw [if_pos hd, z_chk_pos (by omega)]
        exact go
      · rw [if_neg hd] at go ⊢
        rw [if_neg hd, z_chk_pos (by omega), z_chk_pos (by omega)]
        by_cases q : T y = T x
        · rw [if_neg (fun z => z q), z_chk_pos (by omega), ha.1 y (by omega) (by omega)]
          by_cases w : D y ≤ s_mx T D (T x) y
          · rw [if_neg (fun z => by omega)] at go
            rw [if_pos w, z_chk_pos (by omega)]
            exact go
          · rw [if_pos ⟨q, by omega⟩] at go
            rw [if_neg w, z_chk_pos (by omega), z_chk_pos (by omega)]
            exact go
        · rw [if_neg (fun z => q z.1)] at go
          rw [if_pos q, z_chk_pos (by omega)]
          exact go
theorem p6_many_l1 (N : Nat) (R C : Int) (K t T : Int → Int) (ht : s_tk R C K t) : ∀ (f : Nat) (x : Nat), (x : Int) ≤ R * C → (R * C - x).toNat < f → m_X6_manyStates_l1 N t T f (s_rt T x) x = some (s_rt T (R * C).toNat) := by
  have hn := s_dim_n ht.1
  intro f
  induction f with
  | zero => intro x _ hf; omega
  | succ f ih =>
    intro x g1 hf
    rw [m_X6_manyStates_l1, p6_cells N ht, p_b1]
    by_cases h : R * C ≤ x
    · rw [if_pos h, show (R * C).toNat = x by omega]
    · have b := s_rt_b T x
      have go := ih (x + 1) (by omega) (by omega)
      rw [s_rt, show ((x + 1 : Nat) : Int) = (x : Int) + 1 from rfl] at go
      rw [if_neg h, z_chk_pos (by omega)]
      by_cases q : T x = x
      · rw [if_pos q] at go
        rw [if_neg (fun z => z q), z_chk_pos (by omega), z_chk_pos (by omega)]
        exact go
      · rw [if_neg q] at go
        rw [if_pos q, z_chk_pos (by omega), z_chk_pos (by omega)]
        exact go
theorem p6_many (N : Nat) (hN : 10000 ≤ N) (R C hr : Int) (K t s h D T : Int → Int) (ht : s_tk R C K t) (ha : s_ag s h D hr) (hG : s_gr (R * C) (s_nb R C K) D) : ∃ T', m_X6_manyStates N t s T = some (s_rt T' (R * C).toNat, T') ∧ s_lab (-1) (R * C) (s_nb R C K) D T' := by
  have hn := s_dim_n ht.1
  obtain ⟨T', e, hl⟩ := p6_laysStates N hN R C hr K t s h D T ht ha hG
  exact ⟨T', by rw [m_X6_manyStates, e, p_b1, show m_X6_manyStates_l1 N t T' N 0 0 = _ from p6_many_l1 N R C K t T' ht N 0 (by omega) (by omega), p_b1], hl⟩
theorem p6_isOne (N : Nat) (hN : 10000 ≤ N) (R C hr : Int) (K t s h D T : Int → Int) (ht : s_tk R C K t) (ha : s_ag s h D hr) (hG : s_gr (R * C) (s_nb R C K) D) (x y : Int) (hx : 0 ≤ x ∧ x < R * C) (hy : 0 ≤ y ∧ y < R * C) : ∃ T', m_X6_isOne N t s T x y = some (if 0 ≤ T' x ∧ T' x = T' y then 1 else 0, T') ∧ s_lab (-1) (R * C) (s_nb R C K) D T' := by
  have hn := s_dim_n ht.1
  obtain ⟨T', e, hl⟩ := p6_laysStates N hN R C hr K t s h D T ht ha hG
  refine ⟨T', ?_, hl⟩
  rw [m_X6_isOne, e, p_b1, z_chk_pos (by omega)]
  by_cases q : T' x < 0
  · rw [if_pos q, if_neg (by omega)]
  · rw [if_neg q, z_chk_pos (by omega), z_chk_pos (by omega)]
    by_cases w : T' x = T' y
    · rw [if_neg (fun z => z w), if_pos ⟨by omega, w⟩]
    · rw [if_pos w, if_neg (fun z => w z.2)]
/-! both say the same -/
theorem s_lab_as {n : Int} {nb : Int → Int → Int} {D L T : Int → Int} (hg : s_gr n nb D) (hl : s_lab (-4) n nb D L) (ht : s_lab (-1) n nb D T) (x : Int) (hx : 0 ≤ x ∧ x < n) : (L x = -4 ∧ T x = -1) ∨ (0 ≤ L x ∧ L x ≤ x ∧ T x = L x) := by
  by_cases w : D x ≤ 0
  · exact Or.inl ⟨(hl x hx.1 hx.2).1 w, (ht x hx.1 hx.2).1 w⟩
  · have a := ((hl x hx.1 hx.2).2 (by omega)).1
    exact Or.inr ⟨a.1, a.2.1, (s_lab_one hg hl ht hx (by omega)).symm⟩
theorem s_lab_ct {n : Int} {nb : Int → Int → Int} {D L T : Int → Int} (hg : s_gr n nb D) (hl : s_lab (-4) n nb D L) (ht : s_lab (-1) n nb D T) (c : Int) (hc : 0 ≤ c) : s_ct L c n.toNat = s_ct T c n.toNat :=
  s_ct_same L T c n.toNat (fun y a b => by
    have := s_lab_as hg hl ht y ⟨a, by omega⟩
    omega)
theorem s_lab_mx {n : Int} {nb : Int → Int → Int} {D L T : Int → Int} (hg : s_gr n nb D) (hl : s_lab (-4) n nb D L) (ht : s_lab (-1) n nb D T) (c : Int) (hc : 0 ≤ c) : s_mx L D c n.toNat = s_mx T D c n.toNat :=
  s_mx_same L T D c n.toNat (fun y a b => by
    have := s_lab_as hg hl ht y ⟨a, by omega⟩
    omega)
theorem s_lab_rt {n : Int} {nb : Int → Int → Int} {D L T : Int → Int} (hg : s_gr n nb D) (hl : s_lab (-4) n nb D L) (ht : s_lab (-1) n nb D T) : s_rt L n.toNat = s_rt T n.toNat :=
  s_rt_same L T n.toNat (fun y a b => by
    have := s_lab_as hg hl ht y ⟨a, by omega⟩
    omega)
