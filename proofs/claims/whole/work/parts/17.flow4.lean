/-! FLOW in the reference -/
def s_ag (s h D : Int → Int) (hr : Int) : Prop := (∀ x, 0 ≤ x → x < 36 → s x = D x) ∧ (∀ x, 0 ≤ x → x < 36 → s (36 + x) = h x) ∧ s 72 = hr
def s_tk (R C : Int) (K t : Int → Int) : Prop := s_dim R C ∧ t 0 = R ∧ t 1 = C ∧ ∀ i, 0 ≤ i → i < 36 → t (3 + i) = K i
theorem s_env_nb {R C : Int} (K : Int → Int) (h : s_dim R C) : s_env (R * C) (s_nb R C K) K := by
  have hn := s_dim_n h
  exact ⟨by omega, fun x s => s_nb_in, fun x s a b c d e f => s_nb_sym h ⟨a, b⟩ c ⟨d, e⟩ f⟩
theorem p6_cells {R C : Int} {K t : Int → Int} (N : Nat) (h : s_tk R C K t) : m_X6_cells N t = some (R * C) := by
  have hn := s_dim_n h.1
  rw [p_cells N t (by rw [h.2.1, h.2.2.1]; omega), h.2.1, h.2.2.1]
theorem p6_isCell {R C : Int} {K t : Int → Int} (N : Nat) (h : s_tk R C K t) (x : Int) : m_X6_isCell N t x = some (if 0 ≤ x ∧ x < R * C then 1 else 0) := by
  have hn := s_dim_n h.1
  rw [p_isCell N t x (by rw [h.2.1, h.2.2.1]; omega) (by rw [h.2.1, h.2.2.1]; omega), h.2.1, h.2.2.1]
theorem p6_nb {R C : Int} {K t : Int → Int} (N : Nat) (h : s_tk R C K t) (x s : Int) (hx : 0 ≤ x ∧ x < R * C) (hs : 0 ≤ s ∧ s ≤ 3) : m_X6_beside N t x s = some (s_nb R C K x s) := p6_beside N t K R C x s h.1 h.2.1 h.2.2.1 h.2.2.2 hx hs
theorem p6_level (N : Nat) (n hr : Int) (K s h D : Int → Int) (ha : s_ag s h D hr) (hok : s_ok n K h D) (x : Int) (hx : 0 ≤ x ∧ x < 36) : m_X6_level N s x = some (s_lv h D x) := by
  have q := hok x hx.1 hx.2
  have a := ha.1 x hx.1 hx.2
  have b := ha.2.1 x hx.1 hx.2
  unfold m_X6_level s_lv
  rw [a, b, z_chk_pos (by omega), z_chk_pos (by omega), z_chk_pos (by omega), z_chk_pos (by omega)]
theorem p6_drops (N : Nat) (n hr : Int) (K t s h D : Int → Int) (hK : ∀ i, 0 ≤ i → i < 36 → t (3 + i) = K i) (ha : s_ag s h D hr) (hok : s_ok n K h D) (x to : Int) (hx : 0 ≤ x ∧ x < 36) (hto : 0 ≤ to ∧ to < 36) (hne : x ≠ to) (hd : 0 < D x) : ∃ s', m_X6_drops N t s x to = some s' ∧ s_ag s' h (s_drop K D x to) hr := by
  have q := hok x hx.1 hx.2
  have q2 := hok to hto.1 hto.2
  have a := ha.1 x hx.1 hx.2
  have a2 := ha.1 to hto.1 hto.2
  have e : z_up s x (s x - 1) to = D to := by
    unfold z_up
    rw [if_neg (fun z => hne z.symm), a2]
  have ag : ∀ v, v = (if K to ≠ 2 ∧ D to < 60 then D to + 1 else D to) → s_ag (z_up (z_up s x (s x - 1)) to v) h (s_drop K D x to) hr := by
    intro v hv
    refine ⟨fun y g0 g1 => ?_, fun y g0 g1 => ?_, ?_⟩
    · rw [s_drop_at K D x to y hne]
      have ay := ha.1 y g0 g1
      unfold z_up
      by_cases h1 : y = to
      · rw [if_pos h1, if_neg (fun z => hne (z.symm.trans h1)), hv]
        by_cases hc : K to ≠ 2 ∧ D to < 60
        · rw [if_pos hc, if_pos ⟨h1, hc.1, hc.2⟩]
        · rw [if_neg hc, if_neg (fun z => hc z.2), h1]
      · by_cases h2 : y = x
        · rw [if_neg h1, if_pos h2, if_pos h2, a]
        · rw [if_neg h1, if_neg h2, if_neg h2, if_neg (fun z => h1 z.1), ay]
    · unfold z_up
      rw [if_neg (by omega), if_neg (by omega)]
      exact ha.2.1 y g0 g1
    · unfold z_up
      rw [if_neg (by omega), if_neg (by omega)]
      exact ha.2.2
  unfold m_X6_drops
  rw [z_chk_pos (by omega), z_chk_pos (by omega), z_chk_pos (by omega), z_chk_pos (by omega), z_chk_pos (by omega), z_chk_pos (by omega), hK to hto.1 hto.2, e]
  by_cases h2 : K to = 2
  · rw [if_pos h2, z_chk_pos (by omega), z_chk_pos (by omega)]
    exact ⟨_, rfl, ag _ (by rw [if_neg (fun z => z.1 h2), Int.add_zero])⟩
  · rw [if_neg h2, z_chk_pos (by omega)]
    by_cases h6 : 60 ≤ D to
    · rw [if_pos h6, z_chk_pos (by omega), z_chk_pos (by omega)]
      exact ⟨_, rfl, ag _ (by rw [if_neg (fun z => by omega), Int.add_zero])⟩
    · rw [if_neg h6, z_chk_pos (by omega), z_chk_pos (by omega)]
      exact ⟨_, rfl, ag _ (by rw [if_pos ⟨h2, by omega⟩])⟩
theorem p6_sends_step (N : Nat) (R C hr : Int) (K t s h D : Int → Int) (ht : s_tk R C K t) (ha : s_ag s h D hr) (hok : s_ok (R * C) K h D) (x v : Int) (hx : 0 ≤ x ∧ x < R * C) (hv : 0 ≤ v ∧ v ≤ 3) (hd : 0 < D x) (f : Nat) (p : Int × Int) (hp : p.1 < 0 ∨ (p.1 < R * C ∧ p.2 = s_lv h D p.1)) : m_X6_sends_l1 N x s t (f + 1) p.1 v = m_X6_sends_l1 N x s t f (s_bc (s_nb R C K) K h D x v p).1 (v + -1) ∧ ((s_bc (s_nb R C K) K h D x v p).1 < 0 ∨ ((s_bc (s_nb R C K) K h D x v p).1 < R * C ∧ (s_bc (s_nb R C K) K h D x v p).2 = s_lv h D (s_bc (s_nb R C K) K h D x v p).1)) := by
  have hn := s_dim_n ht.1
  have a := ha.1 x hx.1 (by omega)
  have hnb := s_nb_in (R := R) (C := C) (K := K) (x := x) (s := v)
  refine ⟨?_, ?_⟩
  · rw [m_X6_sends_l1, if_neg (by omega), z_chk_pos (by omega), a, if_neg (by omega), p6_nb N ht x v hx hv, p_b1]
    unfold s_bc
    generalize s_nb R C K x v = y at *
    by_cases hy : y < 0
    · rw [if_pos hy, p_b1, if_pos hy, p_b1, if_pos rfl, z_chk_pos (by omega), if_neg (fun z => by omega)]
    · have hy2 : 0 ≤ y ∧ y < R * C ∧ K y ≠ 3 := by omega
      have ky := ht.2.2.2 y (by omega) (by omega)
      have ly := p6_level N (R * C) hr K s h D ha hok y (by omega)
      have lx := p6_level N (R * C) hr K s h D ha hok x (by omega)
      have by0 := hok y (by omega) (by omega)
      have bx0 := hok x (by omega) (by omega)
      have gy : 0 ≤ s_lv h D y ∧ s_lv h D y ≤ 80 := by unfold s_lv; omega
      rw [if_neg hy, z_chk_pos (by omega), z_chk_pos (by omega), ky]
      by_cases h2 : K y = 2
      · rw [if_neg (fun z => z h2), p_b1, if_neg hy, ly, p_b1, z_chk_pos (by omega), lx, p_b1, if_pos h2]
        by_cases hc : s_lv h D x < s_lv h D y + 1
        · rw [if_pos hc, p_b1, if_pos rfl, z_chk_pos (by omega), if_neg (fun z => by omega)]
        · rw [if_neg hc, p_b1, if_neg (by decide)]
          by_cases hp0 : p.1 < 0
          · rw [if_pos hp0, z_chk_pos (by omega), if_pos ⟨hd, by omega, by omega, Or.inl hp0⟩]
          · have lp := p6_level N (R * C) hr K s h D ha hok p.1 (by omega)
            rw [if_neg hp0, p_b1, lp, p_b1]
            have hp2 : p.2 = s_lv h D p.1 := by omega
            by_cases hl : s_lv h D p.1 < s_lv h D y
            · rw [if_pos hl, z_chk_pos (by omega), if_neg (fun z => by omega)]
            · rw [if_neg hl, z_chk_pos (by omega), if_pos ⟨hd, by omega, by omega, Or.inr (by omega)⟩]
      · rw [if_pos h2, p_b1, if_neg hy, ly, p_b1, z_chk_pos (by omega), lx, p_b1, if_neg h2]
        by_cases hc : s_lv h D x < s_lv h D y + 2
        · rw [if_pos hc, p_b1, if_pos rfl, z_chk_pos (by omega), if_neg (fun z => by omega)]
        · rw [if_neg hc, p_b1, if_neg (by decide)]
          by_cases hp0 : p.1 < 0
          · rw [if_pos hp0, z_chk_pos (by omega), if_pos ⟨hd, by omega, by omega, Or.inl hp0⟩]
          · have lp := p6_level N (R * C) hr K s h D ha hok p.1 (by omega)
            rw [if_neg hp0, p_b1, lp, p_b1]
            have hp2 : p.2 = s_lv h D p.1 := by omega
            by_cases hl : s_lv h D p.1 < s_lv h D y
            · rw [if_pos hl, z_chk_pos (by omega), if_neg (fun z => by omega)]
            · rw [if_neg hl, z_chk_pos (by omega), if_pos ⟨hd, by omega, by omega, Or.inr (by omega)⟩]
  · rcases s_bc_or (s_nb R C K) K h D x v p with ⟨hv2, e⟩ | e
    · rw [e]
      right
      have := hv2.2.1
      refine ⟨?_, rfl⟩
      show s_nb R C K x v < R * C
      omega
    · rw [e]; exact hp
theorem p6_sends (N : Nat) (hN : 10 ≤ N) (R C hr : Int) (K t s h D : Int → Int) (ht : s_tk R C K t) (ha : s_ag s h D hr) (hok : s_ok (R * C) K h D) (x : Int) (hx : 0 ≤ x ∧ x < R * C) : ∃ s', m_X6_sends N t s x = some (if s_tgt (s_nb R C K) K h D x < 0 then 0 else 1, s') ∧ s_ag s' h (s_step (s_nb R C K) K h D x) hr := by
  have hn := s_dim_n ht.1
  have hE := s_env_nb K ht.1
  have a := ha.1 x hx.1 (by omega)
  have q := hok x hx.1 (by omega)
  obtain ⟨M, rfl⟩ : ∃ M, N = M + 5 := ⟨N - 5, by omega⟩
  have loop : m_X6_sends_l1 (M + 5) x s t (M + 5) (-1) 3 = some (s_tgt (s_nb R C K) K h D x) := by
    by_cases hd : D x ≤ 0
    · have : s_tgt (s_nb R C K) K h D x = -1 := by
        unfold s_tgt
        have e : ∀ s p, s_bc (s_nb R C K) K h D x s p = p := fun s p => if_neg (by omega)
        rw [e, e, e, e]
      rw [this, m_X6_sends_l1, if_neg (by omega), z_chk_pos (by omega), a, if_pos hd]
    · have st := fun v hv f p hp => p6_sends_step (M + 5) R C hr K t s h D ht ha hok x v hx hv (by omega) f p hp
      obtain ⟨e3, i3⟩ := st 3 (by omega) (M + 4) (-1, 0) (Or.inl (by decide))
      obtain ⟨e2, i2⟩ := st 2 (by omega) (M + 3) _ i3
      obtain ⟨e1, i1⟩ := st 1 (by omega) (M + 2) _ i2
      obtain ⟨e0, i0⟩ := st 0 (by omega) (M + 1) _ i1
      simp only [show (3 : Int) + -1 = 2 from rfl, show (2 : Int) + -1 = 1 from rfl, show (1 : Int) + -1 = 0 from rfl, show (0 : Int) + -1 = -1 from rfl] at e3 e2 e1 e0
      rw [show m_X6_sends_l1 (M + 5) x s t (M + 5) (-1) 3 = m_X6_sends_l1 (M + 5) x s t (M + 4 + 1) ((-1, 0) : Int × Int).1 3 from rfl, e3, e2, e1, e0, m_X6_sends_l1, if_pos (by decide)]
      rfl
  rw [m_X6_sends, loop, p_b1]
  unfold s_step
  by_cases hts : s_tgt (s_nb R C K) K h D x < 0
  · rw [if_pos hts, p_b1, if_pos hts, if_pos hts, if_pos hts]
    exact ⟨s, rfl, ha⟩
  · obtain ⟨h1, h2, h3, h4, h5, -⟩ := s_send (R * C) (s_nb R C K) K h D hE hok x hx (by omega)
    obtain ⟨s', e, ha'⟩ := p6_drops (M + 5) (R * C) hr K t s h D ht.2.2.2 ha hok x _ (by omega) (by omega) h4 h1
    rw [if_neg hts, e, p_b1, p_b1, if_neg hts, if_neg hts, if_neg hts]
    exact ⟨s', rfl, ha'⟩
theorem p6_flows_l2 (N : Nat) (hN : 10 ≤ N) (R C hr : Int) (K t h D0 : Int → Int) (ht : s_tk R C K t) (hok : s_ok (R * C) K h D0) : ∀ (f : Nat) (x m : Int) (s : Int → Int), 0 ≤ x → x ≤ R * C → (R * C - x).toNat < f → s_ag s h (s_rd (s_nb R C K) K h x.toNat D0) hr → ((m = 1 ∧ s_phi h (s_rd (s_nb R C K) K h x.toNat D0) (R * C).toNat + 1 ≤ s_phi h D0 (R * C).toNat) ∨ (m = 0 ∧ s_rd (s_nb R C K) K h x.toNat D0 = D0 ∧ ∀ y, 0 ≤ y → y < x → s_tgt (s_nb R C K) K h D0 y < 0)) → ∃ m' s', m_X6_flows_l2 N t f m x s = some (m', s') ∧ s_ag s' h (s_rd (s_nb R C K) K h (R * C).toNat D0) hr ∧ ((m' = 1 ∧ s_phi h (s_rd (s_nb R C K) K h (R * C).toNat D0) (R * C).toNat + 1 ≤ s_phi h D0 (R * C).toNat) ∨ (m' = 0 ∧ s_rd (s_nb R C K) K h (R * C).toNat D0 = D0 ∧ s_still (R * C) (s_nb R C K) K h D0)) := by
  have hn := s_dim_n ht.1
  have hE := s_env_nb K ht.1
  intro f
  induction f with
  | zero => intro x m s _ _ hf; omega
  | succ f ih =>
    intro x m s g0 g1 hf ha hp
    rw [m_X6_flows_l2, p6_cells N ht, p_b1]
    by_cases hc : R * C ≤ x
    · rw [if_pos hc]
      have : x = R * C := by omega
      subst this
      exact ⟨m, s, rfl, ha, hp.imp id (fun q => ⟨q.1, q.2.1, q.2.2⟩)⟩
    · rw [if_neg hc]
      have hokx := s_rd_ok (R * C) (s_nb R C K) K h D0 hE hok x.toNat (by omega)
      have ex : (x + 1).toNat = x.toNat + 1 := by omega
      have exx : ((x.toNat : Nat) : Int) = x := by omega
      have sx : s_rd (s_nb R C K) K h (x + 1).toNat D0 = s_step (s_nb R C K) K h (s_rd (s_nb R C K) K h x.toNat D0) x := by rw [ex, s_rd, exx]
      obtain ⟨s', e, ha'⟩ := p6_sends N hN R C hr K t s h _ ht ha hokx x (by omega)
      rw [← sx] at ha'
      rw [e, p_b2]
      by_cases hts : s_tgt (s_nb R C K) K h (s_rd (s_nb R C K) K h x.toNat D0) x < 0
      · have es : s_step (s_nb R C K) K h (s_rd (s_nb R C K) K h x.toNat D0) x = s_rd (s_nb R C K) K h x.toNat D0 := by unfold s_step; rw [if_pos hts]
        have sx' := sx.trans es
        rw [if_pos hts]
        rcases hp with ⟨hm, hphi⟩ | ⟨hm, hD, hall⟩
        · subst hm
          rw [if_pos (by decide), z_chk_pos (by omega)]
          exact ih (x + 1) 1 s' (by omega) (by omega) (by omega) ha' (Or.inl ⟨rfl, by rw [sx']; exact hphi⟩)
        · subst hm
          rw [if_neg (by decide), if_pos rfl, z_chk_pos (by omega)]
          refine ih (x + 1) 0 s' (by omega) (by omega) (by omega) ha' (Or.inr ⟨rfl, by rw [sx']; exact hD, fun y a b => ?_⟩)
          by_cases hy : y = x
          · rw [hD] at hts
            rw [hy]; exact hts
          · exact hall y a (by omega)
      · have ph := s_phi_step (R * C) (s_nb R C K) K h _ hE hokx x (by omega) (by omega)
        rw [← sx] at ph
        have ph2 : s_phi h (s_rd (s_nb R C K) K h (x + 1).toNat D0) (R * C).toNat + 1 ≤ s_phi h D0 (R * C).toNat := by
          rcases hp with ⟨hm, hphi⟩ | ⟨hm, hD, hall⟩
          · omega
          · rw [hD] at ph; exact ph
        rw [if_neg hts]
        rcases hp with ⟨hm, hphi⟩ | ⟨hm, hD, hall⟩
        · subst hm
          rw [if_pos (by decide), z_chk_pos (by omega)]
          exact ih (x + 1) 1 s' (by omega) (by omega) (by omega) ha' (Or.inl ⟨rfl, ph2⟩)
        · subst hm
          rw [if_neg (by decide), if_neg (by decide), z_chk_pos (by omega)]
          exact ih (x + 1) 1 s' (by omega) (by omega) (by omega) ha' (Or.inl ⟨rfl, ph2⟩)
theorem p6_flows_l1 (N : Nat) (hN : 100 ≤ N) (R C hr : Int) (K t h D0 : Int → Int) (ht : s_tk R C K t) (hok : s_ok (R * C) K h D0) : ∀ (f : Nat) (j : Nat) (m : Int) (s : Int → Int), s_ag s h (s_it (R * C) (s_nb R C K) K h j D0) hr → ((m = 0 ∧ 1 ≤ f ∧ j ≤ 300000 ∧ s_still (R * C) (s_nb R C K) K h (s_it (R * C) (s_nb R C K) K h j D0)) ∨ (m = 1 ∧ s_phi h (s_it (R * C) (s_nb R C K) K h j D0) (R * C).toNat + j ≤ s_phi h D0 (R * C).toNat ∧ s_phi h D0 (R * C).toNat - j + 3 ≤ f)) → ∃ s', m_X6_flows_l1 N t f m s = some s' ∧ s_ag s' h (s_flow (R * C) (s_nb R C K) K h D0) hr := by
  have hn := s_dim_n ht.1
  have hE := s_env_nb K ht.1
  have hphi := s_phi_le (R * C) K h D0 hok (R * C).toNat (by omega)
  intro f
  induction f with
  | zero =>
    intro j m s ha hf
    have := s_phi_nn h (s_it (R * C) (s_nb R C K) K h j D0) (R * C).toNat
    rcases hf with q | q <;> omega
  | succ f ih =>
    intro j m s ha hf
    have nn := s_phi_nn h (s_it (R * C) (s_nb R C K) K h j D0) (R * C).toNat
    rw [m_X6_flows_l1]
    rcases hf with ⟨hm, -, hj, hs⟩ | ⟨hm, h1, h2⟩
    · rw [if_pos hm]
      refine ⟨s, rfl, ?_⟩
      rw [← s_flow_of (R * C) (s_nb R C K) K h D0 (by omega) j hj hs]
      exact ha
    · rw [if_neg (by omega)]
      have okj := s_it_ok (R * C) (s_nb R C K) K h D0 hE hok j
      have base : s_rd (s_nb R C K) K h (0 : Int).toNat (s_it (R * C) (s_nb R C K) K h j D0) = s_it (R * C) (s_nb R C K) K h j D0 := rfl
      obtain ⟨m', s', e, ha', hd⟩ := p6_flows_l2 N (by omega) R C hr K t h (s_it (R * C) (s_nb R C K) K h j D0) ht okj N 0 0 s (by omega) (by omega) (by omega) (by rw [base]; exact ha) (Or.inr ⟨rfl, base, fun y a b => by omega⟩)
      have en : s_rd (s_nb R C K) K h (R * C).toNat (s_it (R * C) (s_nb R C K) K h j D0) = s_it (R * C) (s_nb R C K) K h (j + 1) D0 := rfl
      rw [en] at ha' hd
      rw [e, p_b2]
      refine ih (j + 1) m' s' ha' ?_
      rcases hd with ⟨a, b⟩ | ⟨a, b, c⟩
      · exact Or.inr ⟨a, by omega, by omega⟩
      · exact Or.inl ⟨a, by omega, by omega, by rw [b]; exact c⟩
theorem p6_flows (N : Nat) (hN : 1000000 ≤ N) (R C hr : Int) (K t s h D : Int → Int) (ht : s_tk R C K t) (ha : s_ag s h D hr) (hok : s_ok (R * C) K h D) : ∃ s', m_X6_flows N t s = some s' ∧ s_ag s' h (s_flow (R * C) (s_nb R C K) K h D) hr := by
  have hn := s_dim_n ht.1
  have hphi := s_phi_le (R * C) K h D hok (R * C).toNat (by omega)
  obtain ⟨s', e, h2⟩ := p6_flows_l1 N (by omega) R C hr K t h D ht hok N 0 1 s ha (Or.inr ⟨rfl, by
    show s_phi h D (R * C).toNat + 0 ≤ s_phi h D (R * C).toNat
    omega, by omega⟩)
  exact ⟨s', by rw [m_X6_flows, e, p_b1], h2⟩
