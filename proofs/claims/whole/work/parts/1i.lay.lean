/-! lay, and what asks for later -/
theorem p_b24 {α0 α1 α2 α3 α4 α5 α6 α7 α8 α9 α10 α11 α12 α13 α14 α15 α16 α17 α18 α19 α20 α21 α22 α23 δ : Type} (a0 : α0) (a1 : α1) (a2 : α2) (a3 : α3) (a4 : α4) (a5 : α5) (a6 : α6) (a7 : α7) (a8 : α8) (a9 : α9) (a10 : α10) (a11 : α11) (a12 : α12) (a13 : α13) (a14 : α14) (a15 : α15) (a16 : α16) (a17 : α17) (a18 : α18) (a19 : α19) (a20 : α20) (a21 : α21) (a22 : α22) (a23 : α23) (f : α0 → α1 → α2 → α3 → α4 → α5 → α6 → α7 → α8 → α9 → α10 → α11 → α12 → α13 → α14 → α15 → α16 → α17 → α18 → α19 → α20 → α21 → α22 → α23 → Option δ) : z_b24 (some (a0, a1, a2, a3, a4, a5, a6, a7, a8, a9, a10, a11, a12, a13, a14, a15, a16, a17, a18, a19, a20, a21, a22, a23)) f = f a0 a1 a2 a3 a4 a5 a6 a7 a8 a9 a10 a11 a12 a13 a14 a15 a16 a17 a18 a19 a20 a21 a22 a23 := rfl
theorem p_b10 {α0 α1 α2 α3 α4 α5 α6 α7 α8 α9 δ : Type} (a0 : α0) (a1 : α1) (a2 : α2) (a3 : α3) (a4 : α4) (a5 : α5) (a6 : α6) (a7 : α7) (a8 : α8) (a9 : α9) (f : α0 → α1 → α2 → α3 → α4 → α5 → α6 → α7 → α8 → α9 → Option δ) : z_b10 (some (a0, a1, a2, a3, a4, a5, a6, a7, a8, a9)) f = f a0 a1 a2 a3 a4 a5 a6 a7 a8 a9 := rfl

theorem p6_lays_c1 (N : Nat) (s : Int → Int) : ∀ (f : Nat) (v : Int) (t : Int → Int), 0 ≤ v → v ≤ 39 → (39 - v).toNat < f → (∀ x, 0 ≤ x → x < v → t x = s x) → ∃ t', m_X6_lays_l1 N s f v t = some t' ∧ ∀ x, 0 ≤ x → x < 39 → t' x = s x := by
  intro f
  induction f with
  | zero => intro v t _ _ hf; omega
  | succ f ih =>
    intro v t g0 g1 hf ht
    rw [m_X6_lays_l1]
    by_cases hc : 39 ≤ v
    · rw [if_pos hc]
      exact ⟨t, rfl, fun x a b => ht x a (by omega)⟩
    · rw [if_neg hc, z_chk_pos (by omega), z_chk_pos (by omega), z_chk_pos (by omega)]
      refine ih (v + 1) _ (by omega) (by omega) (by omega) (fun x a b => ?_)
      unfold z_up
      by_cases hx : x = v
      · rw [if_pos hx, hx]
      · rw [if_neg hx]; exact ht x a (by omega)
theorem p6_lays_c3 (N : Nat) (t s0 : Int → Int) : ∀ (f : Nat) (v : Int) (s : Int → Int), 0 ≤ v → v ≤ 36 → (36 - v).toNat < f → (∀ x, s x = if 0 ≤ x ∧ x < v ∧ (t (3 + x) = 2 ∨ t (3 + x) = 3) then 0 else s0 x) → ∃ s', m_X6_lays_l3 N t f v s = some s' ∧ ∀ x, s' x = if 0 ≤ x ∧ x < 36 ∧ (t (3 + x) = 2 ∨ t (3 + x) = 3) then 0 else s0 x := by
  intro f
  induction f with
  | zero => intro v s _ _ hf; omega
  | succ f ih =>
    intro v s g0 g1 hf hs
    rw [m_X6_lays_l3]
    by_cases hc : 36 ≤ v
    · rw [if_pos hc]
      have : v = 36 := by omega
      subst this
      exact ⟨s, rfl, hs⟩
    · rw [if_neg hc, z_chk_pos (by omega), z_chk_pos (by omega)]
      have go : ∀ w, (w = if t (3 + v) = 2 ∨ t (3 + v) = 3 then 0 else s v) → ∀ x, z_up s v w x = if 0 ≤ x ∧ x < v + 1 ∧ (t (3 + x) = 2 ∨ t (3 + x) = 3) then 0 else s0 x := fun w hw x => by
        unfold z_up
        have hv := hs v
        rw [if_neg (by omega)] at hv
        by_cases hx : x = v
        · rw [if_pos hx, hw, hx, hv]
          by_cases q : t (3 + v) = 2 ∨ t (3 + v) = 3
          · rw [if_pos q, if_pos ⟨g0, by omega, q⟩]
          · rw [if_neg q, if_neg (fun z => q z.2.2)]
        · rw [if_neg hx, hs x]
          by_cases q : 0 ≤ x ∧ x < v ∧ (t (3 + x) = 2 ∨ t (3 + x) = 3)
          · rw [if_pos q, if_pos ⟨q.1, by omega, q.2.2⟩]
          · rw [if_neg q, if_neg (fun z => q ⟨z.1, by omega, z.2.2⟩)]
      by_cases h2 : t (3 + v) = 2
      · rw [if_pos h2, z_chk_pos (by omega), z_chk_pos (by omega)]
        exact ih (v + 1) _ (by omega) (by omega) (by omega) (go _ (by rw [if_pos (Or.inl h2)]))
      · rw [if_neg h2, z_chk_pos (by omega), z_chk_pos (by omega)]
        by_cases h3 : t (3 + v) = 3
        · rw [if_neg (fun z => z h3), z_chk_pos (by omega), z_chk_pos (by omega)]
          exact ih (v + 1) _ (by omega) (by omega) (by omega) (go _ (by rw [if_pos (Or.inr h3)]))
        · rw [if_pos h3, z_chk_pos (by omega), z_chk_pos (by omega), z_chk_pos (by omega)]
          exact ih (v + 1) _ (by omega) (by omega) (by omega) (go _ (by rw [if_neg (fun z => by omega)]))
theorem p_copyGround (N : Nat) (R C m R2 C2 m2 : Int) (K be K2 be2 : Int → Int) (bb bb2 : Int → Int64) : m_X0_copyFrom N R C m K be bb R2 C2 m2 K2 be2 bb2 = some (R2, C2, m2, z_cpy K2 K 0 0 36, z_cpy be2 be 0 0 144, z_cpy bb2 bb 0 0 36) := by
  rw [m_X0_copyFrom, z_chk_pos (by decide), z_chk_pos (by decide), z_chk_pos (by decide)]
theorem s_nb_fn {R C : Int} {K K' : Int → Int} (hd : s_dim R C) (k : ∀ x, 0 ≤ x → x < 36 → K' x = K x) : s_nb R C K' = s_nb R C K := by
  have hn := s_dim_n hd
  funext x s
  unfold s_nb
  by_cases h : 0 ≤ s_next C x s ∧ s_next C x s < R * C
  · rw [k _ h.1 (by omega)]
  · rw [if_neg (fun z => h ⟨z.1, z.2.1⟩), if_neg (fun z => h ⟨z.1, z.2.1⟩)]
theorem s_gb_cpy {n : Int} {nb : Int → Int → Int} {be be2 : Int → Int} {bb bb2 : Int → Int64} (hn : 0 ≤ n ∧ n ≤ 36) (hg : s_gb n nb be bb) : s_gb n nb (z_cpy be be2 0 0 144) (z_cpy bb bb2 0 0 36) := by
  obtain ⟨g1, g2, g3⟩ := hg
  refine ⟨fun x s a b c d => ?_, fun x y a b c d => ?_, fun x y a b c d => ?_⟩
  · rw [s_cpy be be2 144 _ (by omega) (by omega)]
    exact g1 x s a b c d
  · rw [s_cpy bb bb2 36 _ (by omega) (by omega)]
    exact g2 x y a b c d
  · rw [s_cpy bb bb2 36 _ (by omega) (by omega)]
    exact g3 x y a b c d
theorem o_lay (N : Nat) (hN : 1000000 ≤ N) {R C B : Int} {K be : Int → Int} {bb : Int → Int64} {h D : Int → Int} {hr : Int} {told s : Int → Int} {uH uD uh P kH kD kh I rc rd rg T : Int → Int} {uk kk rk n : Int} (c : s_cw R C B K be bb h D hr told s) (u : s_stk (R * C) (s_nb R C K) K B uH uD uh P uk 8) (v : s_stk (R * C) (s_nb R C K) K B kH kD kh I kk 2) (g : s_rg (R * C) rc rd rg rk) (ht : s_tx T n) (r : Int64) (a0 a1 oR oC om lhr : Int) (oK obe lh lD d b : Int → Int) (obb : Int → Int64) : ∃ a rk' a0' R' C' K' be' bb' h' D' hr' r' oR' oC' om' oK' obe' obb' lh' lD' lhr' uk' kk' told' d' b' s' a1', m_X5_lay N rk T n a0 R C (R * C) K be bb h D hr r oR oC om oK obe obb lh lD lhr uk kk = some (a, rk', a0', R', C', R' * C', K', be', bb', h', D', hr', r', oR', oC', om', oK', obe', obb', lh', lD', lhr', uk', kk') ∧ m_X6_lay N T n told d b s uk kk rk a1 = some (a, told', d', b', s', uk', kk', rk', a1') ∧ s_cw R' C' B K' be' bb' h' D' hr' told' s' ∧ s_stk (R' * C') (s_nb R' C' K') K' B uH uD uh P uk' 8 ∧ s_stk (R' * C') (s_nb R' C' K') K' B kH kD kh I kk' 2 ∧ s_rg (R' * C') rc rd rg rk' := by
  rw [m_X5_lay, m_X6_lay]
  by_cases h0 : n = 0
  · rw [if_pos h0, if_pos h0]
    exact ⟨_, _, _, _, _, _, _, _, _, _, _, _, _, _, _, _, _, _, _, _, _, _, _, _, _, _, _, _, rfl, rfl, c, u, v, g⟩
  · rw [if_neg h0, if_neg h0]
    obtain ⟨q, o, d', b', a', e1, e2, e3⟩ := p_read N (by omega) T obe oK lh lD d b obb n a0 oR oC om lhr a1 ht
    rw [m_X5_layText, e1, p_b11, e2, p_b4]
    rcases e3 with e3 | ⟨e3, w⟩
    · rw [if_neg (show ¬ q = -4 by omega), if_neg (show ¬ q = -4 by omega), p_b24, if_neg p_f0]
      exact ⟨_, _, _, _, _, _, _, _, _, _, _, _, _, _, _, _, _, _, _, _, _, _, _, _, _, _, _, _, rfl, rfl, c, u, v, g⟩
    · obtain ⟨at', R', C', os, K', h', D', be', bb', eo, dr, hg⟩ := w
      subst eo
      obtain ⟨g1, g2, g3, g4, g5, g6, g7⟩ := dr
      have hn := s_dim_n g1
      obtain ⟨t2, e4, h4⟩ := p6_lays_c1 N d' N 0 told (by omega) (by omega) (by omega) (fun x a b => by omega)
      obtain ⟨s2, e5, h5⟩ := p6_copy b' (m_X6_lays_l2 N b') (fun f v t => by rw [m_X6_lays_l2]) N 0 s (by omega) (by omega) (by omega) (fun x a b => by omega)
      obtain ⟨s3, e6, h6⟩ := p6_lays_c3 N t2 s2 N 0 s2 (by omega) (by omega) (by omega) (fun x => by rw [if_neg (by omega)])
      have kx : ∀ x, 0 ≤ x → x < 36 → z_cpy K' K 0 0 36 x = K' x := fun x a b => s_cpy K' K 36 x a b
      have hx : ∀ x, 0 ≤ x → x < 36 → z_cpy h' h 0 0 36 x = h' x := fun x a b => s_cpy h' h 36 x a b
      have dx : ∀ x, 0 ≤ x → x < 36 → z_cpy (s_upto (s_fz K' D') D' (R' * C')) D 0 0 36 x = s_upto (s_fz K' D') D' (R' * C') x := fun x a b => s_cpy _ D 36 x a b
      have fz : ∀ x, 0 ≤ x → x < 36 → s_upto (s_fz K' D') D' (R' * C') x = if K' x = 2 ∨ K' x = 3 then 0 else D' x := fun x a b => by
        obtain ⟨k1, k2, k3, k4, k5, k6, k7⟩ := g5 x a b
        unfold s_upto s_fz
        by_cases i : 0 ≤ x ∧ x < R' * C'
        · rw [if_pos i]
          by_cases j : K' x = 2 ∨ K' x = 3
          · rw [if_pos j, if_neg (fun z => by omega)]
          · rw [if_neg j, if_pos (by omega)]
        · have := k7 (by omega)
          rw [if_neg i]
          split <;> omega
      have tk : s_tk R' C' (z_cpy K' K 0 0 36) t2 := ⟨g1, by rw [h4 0 (by omega) (by omega), g2], by rw [h4 1 (by omega) (by omega), g3], fun i a b => by rw [h4 _ (by omega) (by omega), (g5 i a b).1, kx i a b]⟩
      have tx : ∀ x, 0 ≤ x → x < 36 → t2 (3 + x) = K' x := fun x a b => by rw [tk.2.2.2 x a b, kx x a b]
      have ag : s_ag s3 (z_cpy h' h 0 0 36) (z_cpy (s_upto (s_fz K' D') D' (R' * C')) D 0 0 36) 0 := by
        refine ⟨fun x a b => ?_, fun x a b => ?_, ?_⟩
        · rw [dx x a b, fz x a b, h6 x, tx x a b]
          by_cases j : K' x = 2 ∨ K' x = 3
          · rw [if_pos ⟨a, b, j⟩, if_pos j]
          · rw [if_neg (fun z => j z.2.2), if_neg j, h5 x a (by omega), (g5 x a b).2.1]
        · rw [hx x a b, h6, if_neg (by omega), h5 _ (by omega) (by omega), (g5 x a b).2.2.1]
        · rw [h6, if_neg (by omega), h5 _ (by omega) (by omega), g6]
      have ok : s_ok (R' * C') (z_cpy K' K 0 0 36) (z_cpy h' h 0 0 36) (z_cpy (s_upto (s_fz K' D') D' (R' * C')) D 0 0 36) := fun x a b => by
        obtain ⟨k1, k2, k3, k4, k5, k6, k7⟩ := g5 x a b
        rw [kx x a b, hx x a b, dx x a b, fz x a b]
        by_cases j : K' x = 2 ∨ K' x = 3
        · rw [if_pos j]; exact ⟨k5, by omega, fun _ => rfl⟩
        · rw [if_neg j]
          refine ⟨k5, by omega, fun z => ?_⟩
          exact (k7 (by omega)).1
      have en : s_nb R' C' (z_cpy K' K 0 0 36) = s_nb R' C' K' := s_nb_fn g1 kx
      have hg2 : s_gb (R' * C') (s_nb R' C' (z_cpy K' K 0 0 36)) (z_cpy be' be 0 0 144) (z_cpy bb' bb 0 0 36) := by
        rw [en]; exact s_gb_cpy (by omega) hg
      have hE := s_env_nb (z_cpy K' K 0 0 36) g1
      obtain ⟨r', e7⟩ := p_flow N hN (R' * C') (s_nb R' C' (z_cpy K' K 0 0 36)) (z_cpy K' K 0 0 36) (z_cpy h' h 0 0 36) _ _ _ hE ok hg2 r
      obtain ⟨s4, e8, a8⟩ := p6_flows N hN R' C' 0 _ t2 s3 _ _ tk ag ok
      have hB := c.2.2.2.2.2.2.2
      have e4' : m_X6_lays_l1 N d' N 0 told = some t2 := e4
      rw [if_pos e3, if_pos e3, p_copyGround, p_b6, p_copyNow, p_b3]
      rw [show m_X4_flow N (z_cpy h' h 0 0 36) (z_cpy (s_upto (s_fz K' D') D' (R' * C')) D 0 0 36) r (R' * C') (z_cpy K' K 0 0 36) (z_cpy be' be 0 0 144) (z_cpy bb' bb 0 0 36) = _ from e7, p_b2, p_b24, if_pos p_t1]
      rw [m_X6_lays, e4', p_b1, e5, p_b1, e6, p_b1, e8, p_b1, p_b5, p6_cells N tk, p_b1]
      exact ⟨_, _, _, _, _, _, _, _, _, _, _, _, _, _, _, _, _, _, _, _, _, _, _, _, _, _, _, _, rfl, rfl, ⟨g1, hg2, tk, fun i a b => by rw [kx i a b]; exact (g5 i a b).2.2.2.1, a8, s_flow_ok _ _ _ _ _ hE ok, s_flow_rest g1 ok, show (0 : Int) ≤ 0 by omega, show (0 : Int) ≤ B by omega⟩, ⟨by omega, fun i a b => by omega⟩, ⟨by omega, fun i a b => by omega⟩, ⟨by omega, fun i a b => by omega⟩⟩
