/-! FLOW in the class: restless cells; the whole flow -/
theorem p_bitsBeside (N : Nat) (n : Int) (bb : Int → Int64) (x : Int) (hn : n ≤ 36) (hx : 0 ≤ x ∧ x < n) : m_X0_bitsBeside N n bb x = some (bb x) := by
  have e0 : m_X0_holds N n x = some 1 := by rw [p_holds, if_pos (by omega)]
  rw [m_X0_bitsBeside, e0, p_b1, if_neg (by decide), z_chk_pos (by omega)]
def s_gb (n : Int) (nb : Int → Int → Int) (be : Int → Int) (bb : Int → Int64) : Prop := s_lk n nb n be bb
theorem p_flowFrom (N : Nat) (hN : 10 ≤ N) (n : Int) (nb : Int → Int → Int) (K h D be : Int → Int) (bb : Int → Int64) (hE : s_env n nb K) (hok : s_ok n K h D) (hg : s_gb n nb be bb) (r : Int64) (x : Int) (hx : 0 ≤ x ∧ x < n) : m_X4_flowFrom N h D r n K be bb x = some (s_step nb K h D x, if s_tgt nb K h D x < 0 then r &&& (z_lshl (1 : Int64) x ^^^ (-1 : Int64)) else r ||| bb x) := by
  have hn := hE.1
  rw [m_X4_flowFrom, p_whereTo N hN nb K h D be n hn hok hE.2.1 x hx (fun s a b => hg.1 x s hx.1 hx.2 a b), p_b1]
  unfold s_step
  by_cases ht : s_tgt nb K h D x < 0
  · rw [if_pos ht, if_pos ht, if_pos ht, if_neg (by decide)]
  · rw [if_neg ht, if_neg ht, if_neg ht]
    obtain ⟨h1, h2, h3, h4, h5, -⟩ := s_send n nb K h D hE hok x hx (by omega)
    generalize s_tgt nb K h D x = t at *
    have b := hok x hx.1 (by omega)
    have a := hok t (by omega) (by omega)
    rw [if_pos (by omega), z_chk_pos (by omega), z_chk_pos (by omega), z_chk_pos (by omega), p_putDrop N _ n K t (by
      intro y g0 g1
      have c := hok y g0 g1
      unfold z_up
      by_cases hy : y = x
      · rw [if_pos hy]; omega
      · rw [if_neg hy]; omega), p_b1, p_bitsBeside N n bb x (by omega) hx, p_b1]
    congr 2
    unfold s_drop
    by_cases hc : K t ≠ 2 ∧ z_up D x (D x - 1) t < 60
    · rw [if_pos hc, if_pos ⟨by omega, h2, by omega, h3, hc.1, hc.2⟩]
    · rw [if_neg hc, if_neg (fun z => hc ⟨z.2.2.2.2.1, z.2.2.2.2.2⟩)]
def s_ri (n : Int) (nb : Int → Int → Int) (K h : Int → Int) (r : Int64) (D : Int → Int) : Prop := ∀ y, 0 ≤ y → y < 64 → (s_bit r y → y < n) ∧ (y < n → ¬ s_bit r y → s_tgt nb K h D y < 0)
theorem s_ri_step (n : Int) (nb : Int → Int → Int) (K h D be : Int → Int) (bb : Int → Int64) (hE : s_env n nb K) (hok : s_ok n K h D) (hg : s_gb n nb be bb) (r : Int64) (x : Int) (hx : 0 ≤ x ∧ x < n) (hr : s_ri n nb K h r D) (hb : s_bit r x) : s_ri n nb K h (if s_tgt nb K h D x < 0 then r &&& (z_lshl (1 : Int64) x ^^^ (-1 : Int64)) else r ||| bb x) (s_step nb K h D x) := by
  have hn := hE.1
  intro y g0 g1
  obtain ⟨r1, r2⟩ := hr y g0 g1
  unfold s_step
  by_cases ht : s_tgt nb K h D x < 0
  · rw [if_pos ht, if_pos ht, s_bit_and, s_bit_not (by omega) (by omega)]
    refine ⟨fun q => r1 q.1, fun hy q => ?_⟩
    by_cases hyx : y = x
    · rw [hyx]; exact ht
    · exact r2 hy (fun z => q ⟨z, hyx⟩)
  · rw [if_neg ht, if_neg ht, s_bit_or]
    obtain ⟨h1, h2, h3, h4, h5, s0, hs0, e0⟩ := s_send n nb K h D hE hok x hx (by omega)
    have gb := hg.2.1 x y hx.1 hx.2 g0 g1
    refine ⟨fun q => q.elim r1 (fun z => ?_), fun hy q => ?_⟩
    · obtain ⟨s, hs, e⟩ := gb.mp z
      rcases hE.2.1 x s with w | w <;> omega
    · have nb1 : ∀ s, 0 ≤ s → s ≤ 3 → nb x s ≠ y := fun s a b e => q (Or.inr (gb.mpr ⟨s, ⟨a, b⟩, e⟩))
      have old := r2 hy (fun z => q (Or.inl z))
      have hyx : y ≠ x := fun z => q (Or.inl (by rw [z]; exact hb))
      rcases s_tgt_spec nb K h (s_drop K D x (s_tgt nb K h D x)) y with w | ⟨s, hs, -, hv⟩
      · exact w
      · exfalso
        have key : ∀ z, s_drop K D x (s_tgt nb K h D x) z = if z = x then D x - 1 else if z = s_tgt nb K h D x ∧ K (s_tgt nb K h D x) ≠ 2 ∧ D (s_tgt nb K h D x) < 60 then D (s_tgt nb K h D x) + 1 else D z := fun z => s_drop_at K D x _ z h4
        have hyt : y ≠ s_tgt nb K h D x := fun z => nb1 s0 hs0.1 hs0.2 (by rw [← e0]; exact z.symm)
        obtain ⟨v1, v2, v3⟩ := hv
        have ey : s_drop K D x (s_tgt nb K h D x) y = D y := by
          rw [key, if_neg hyx, if_neg (fun z => hyt z.1)]
        rw [ey] at v1
        have hKy : K y ≠ 3 := fun z => by
          have := (hok y g0 (by omega)).2.2 (Or.inr (Or.inr z))
          omega
        have hnx : nb y s ≠ x := fun z => by
          obtain ⟨s', hs', e'⟩ := hE.2.2 y s g0 hy hKy hs.1 hs.2 v2
          rw [z] at e'
          exact nb1 s' hs'.1 hs'.2 e'
        have le : s_lv h D (nb y s) ≤ s_lv h (s_drop K D x (s_tgt nb K h D x)) (nb y s) := by
          unfold s_lv
          rw [key (nb y s), if_neg hnx]
          split
          · rename_i c; rw [c.1]; omega
          · omega
        have el : s_lv h (s_drop K D x (s_tgt nb K h D x)) y = s_lv h D y := by unfold s_lv; rw [ey]
        rw [el] at v3
        have := s_tgt_has nb K h D y s hs ⟨v1, v2, by omega⟩
        omega
theorem p_flow_l2 (N : Nat) (hN : 100 ≤ N) (n : Int) (nb : Int → Int → Int) (K h D0 be : Int → Int) (bb : Int → Int64) (hE : s_env n nb K) (hok : s_ok n K h D0) (hg : s_gb n nb be bb) : ∀ (f : Nat) (x : Int) (r : Int64), 0 ≤ x → x ≤ n → (n - x).toNat < f → s_ri n nb K h r (s_rd nb K h x.toNat D0) → (s_phi h (s_rd nb K h x.toNat D0) n.toNat + 1 ≤ s_phi h D0 n.toNat ∨ (s_rd nb K h x.toNat D0 = D0 ∧ ∀ y, 0 ≤ y → y < x → ¬ s_bit r y)) → ∃ r', m_X4_flow_l2 N n h K be bb f x (s_rd nb K h x.toNat D0) r = some (s_rd nb K h n.toNat D0, r') ∧ s_ri n nb K h r' (s_rd nb K h n.toNat D0) ∧ (s_phi h (s_rd nb K h n.toNat D0) n.toNat + 1 ≤ s_phi h D0 n.toNat ∨ ∀ y, 0 ≤ y → y < 64 → ¬ s_bit r' y) := by
  have hn := hE.1
  intro f
  induction f with
  | zero => intro x r _ _ hf; omega
  | succ f ih =>
    intro x r g0 g1 hf hr hp
    rw [m_X4_flow_l2]
    by_cases hc : n ≤ x
    · rw [if_pos hc]
      have : x = n := by omega
      subst this
      refine ⟨r, rfl, hr, hp.imp id (fun q y a b z => ?_)⟩
      exact q.2 y a ((hr y a b).1 z) z
    · rw [if_neg hc, if_neg (by omega)]
      have hokx := s_rd_ok n nb K h D0 hE hok x.toNat (by omega)
      have ex : (x + 1).toNat = x.toNat + 1 := by omega
      have exx : ((x.toNat : Nat) : Int) = x := by omega
      have sx : s_rd nb K h (x + 1).toNat D0 = s_step nb K h (s_rd nb K h x.toNat D0) x := by rw [ex, s_rd, exx]
      by_cases hb : s_bit r x
      · have tt : z_lcmp ((z_lshr r x) &&& (1 : Int64)) (1 : Int64) = 0 := (s_tst (by omega)).mpr hb
        rw [if_neg (fun z => z tt), p_flowFrom N (by omega) n nb K h _ be bb hE hokx hg r x (by omega), p_b2, z_chk_pos (by omega), ← sx]
        have ri := s_ri_step n nb K h _ be bb hE hokx hg r x (by omega) hr hb
        refine ih (x + 1) _ (by omega) (by omega) (by omega) (by rw [sx]; exact ri) ?_
        by_cases ht : s_tgt nb K h (s_rd nb K h x.toNat D0) x < 0
        · have es : s_step nb K h (s_rd nb K h x.toNat D0) x = s_rd nb K h x.toNat D0 := by unfold s_step; rw [if_pos ht]
          rw [sx, es, if_pos ht]
          refine hp.imp id (fun q => ⟨q.1, fun y a b z => ?_⟩)
          rw [s_bit_and, s_bit_not (by omega) (by omega)] at z
          exact q.2 y a (by omega) z.1
        · left
          have := s_phi_step n nb K h _ hE hokx x (by omega) (by omega)
          rw [← sx] at this
          rcases hp with q | q
          · omega
          · rw [q.1] at this
            rw [sx, q.1]
            rw [sx, q.1] at this
            exact this
      · have tt : ¬ z_lcmp ((z_lshr r x) &&& (1 : Int64)) (1 : Int64) = 0 := fun z => hb ((s_tst (by omega)).mp z)
        rw [if_pos tt, z_chk_pos (by omega)]
        have ht := (hr x g0 (by omega)).2 (by omega) hb
        have es : s_step nb K h (s_rd nb K h x.toNat D0) x = s_rd nb K h x.toNat D0 := by unfold s_step; rw [if_pos ht]
        have sx' : s_rd nb K h (x + 1).toNat D0 = s_rd nb K h x.toNat D0 := by rw [sx, es]
        rw [← sx']
        refine ih (x + 1) r (by omega) (by omega) (by omega) (by rw [sx']; exact hr) ?_
        rw [sx']
        refine hp.imp id (fun q => ⟨q.1, fun y a b z => ?_⟩)
        by_cases hy : y = x
        · exact hb (by rw [← hy]; exact z)
        · exact q.2 y a (by omega) z
theorem p_flow_l1 (N : Nat) (hN : 100 ≤ N) (n : Int) (nb : Int → Int → Int) (K h D0 be : Int → Int) (bb : Int → Int64) (hE : s_env n nb K) (hok : s_ok n K h D0) (hg : s_gb n nb be bb) : ∀ (f : Nat) (j : Nat) (r : Int64), s_ri n nb K h r (s_it n nb K h j D0) → ((r = 0 ∧ 1 ≤ f ∧ (j : Int) ≤ s_phi h D0 n.toNat + 1) ∨ (s_phi h (s_it n nb K h j D0) n.toNat + j ≤ s_phi h D0 n.toNat ∧ s_phi h D0 n.toNat - j + 2 ≤ f)) → ∃ j' r', m_X4_flow_l1 N n h K be bb f j (s_it n nb K h j D0) r = some (s_it n nb K h j' D0, r') ∧ j' ≤ 300000 ∧ s_still n nb K h (s_it n nb K h j' D0) := by
  have hn := hE.1
  have hphi := s_phi_le n K h D0 hok n.toNat (by omega)
  intro f
  induction f with
  | zero =>
    intro j r hr hf
    rcases hf with q | q
    · omega
    · have := s_phi_nn h (s_it n nb K h j D0) n.toNat
      omega
  | succ f ih =>
    intro j r hr hf
    have nn := s_phi_nn h (s_it n nb K h j D0) n.toNat
    rw [m_X4_flow_l1]
    by_cases h0 : r = 0
    · rw [if_pos ((s_lcmp r 0).mpr h0)]
      refine ⟨j, r, rfl, by omega, fun y a b => ?_⟩
      exact (hr y a (by omega)).2 b (s_empty.mp h0 y a (by omega))
    · rw [if_neg (fun z => h0 ((s_lcmp r 0).mp z))]
      rcases hf with q | q
      · exact absurd q.1 h0
      · rw [if_neg (by omega)]
        have okj := s_it_ok n nb K h D0 hE hok j
        have base : s_rd nb K h (0 : Int).toNat (s_it n nb K h j D0) = s_it n nb K h j D0 := rfl
        obtain ⟨r', e, hr', hd⟩ := p_flow_l2 N hN n nb K h (s_it n nb K h j D0) be bb hE okj hg N 0 r (by omega) (by omega) (by omega) (by rw [base]; exact hr) (Or.inr ⟨base, fun y a b => by omega⟩)
        rw [base] at e
        have en : s_rd nb K h n.toNat (s_it n nb K h j D0) = s_it n nb K h (j + 1) D0 := rfl
        rw [en] at e hr' hd
        rw [e, p_b2, z_chk_pos (by omega)]
        have := ih (j + 1) r' hr' (by
          by_cases h1 : r' = 0
          · left
            refine ⟨h1, by omega, by omega⟩
          · right
            rcases hd with w | w
            · exact ⟨by omega, by omega⟩
            · exact absurd (s_empty.mpr w) h1)
        rw [show ((j + 1 : Nat) : Int) = (j : Int) + 1 by omega] at this
        exact this
theorem p_flow (N : Nat) (hN : 1000000 ≤ N) (n : Int) (nb : Int → Int → Int) (K h D be : Int → Int) (bb : Int → Int64) (hE : s_env n nb K) (hok : s_ok n K h D) (hg : s_gb n nb be bb) (r : Int64) : ∃ r', m_X4_flow N h D r n K be bb = some (s_flow n nb K h D, r') := by
  have hn := hE.1
  have hphi := s_phi_le n K h D hok n.toNat (by omega)
  have nn := s_phi_nn h D n.toNat
  obtain ⟨b, e, hb⟩ := p_wetBits N (by omega) n D hn
  have base : s_it n nb K h 0 D = D := rfl
  obtain ⟨j', r', e2, hj, hs⟩ := p_flow_l1 N (by omega) n nb K h D be bb hE hok hg N 0 b (by
    rw [base]
    intro y a c
    refine ⟨fun q => ((hb y a c).mp q).1, fun q z => ?_⟩
    rcases s_tgt_spec nb K h D y with w | ⟨s, -, -, hv⟩
    · exact w
    · exact absurd ((hb y a c).mpr ⟨q, hv.1⟩) z) (by
    by_cases h0 : b = 0
    · exact Or.inl ⟨h0, by omega, by omega⟩
    · right
      rw [base]
      constructor
      · omega
      · omega)
  rw [base] at e2
  refine ⟨r', ?_⟩
  rw [m_X4_flow, e, p_b1]
  show z_b2 (m_X4_flow_l1 N n h K be bb N ((0 : Nat) : Int) D b) _ = _
  rw [e2, p_b2, s_flow_of n nb K h D hn.1 j' hj hs]
