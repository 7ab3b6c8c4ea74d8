/-! the start: the relation -/
theorem p_laid (N : Nat) (hN : 1000000 ≤ N) (o : Int × Int × Int × Int × (Int → Int) × (Int → Int) × (Int → Int64) × (Int → Int) × (Int → Int) × Int) (d' b' dR bR : Int → Int) (w : s_rdg o d' b' 0) (hdr : ∀ j, j ≠ 2 → dR j = d' j) (hbr : ∀ j, bR j = b' j) : ∃ at' R' C' K' be' h' D' bb' t2 s4 r' KK BE BB HH DD, o = (at', R', C', R' * C', K', be', bb', h', D', 0) ∧ m_X6_lays N (fun _ => 0) dR bR (fun _ => 0) 0 0 0 = some (t2, s4, 0, 0, 0) ∧ z_cpy K' (fun _ => 0) 0 0 36 = KK ∧ z_cpy be' (fun _ => 0) 0 0 144 = BE ∧ z_cpy bb' (fun _ => 0) 0 0 36 = BB ∧ z_cpy h' (fun _ => 0) 0 0 36 = HH ∧ m_X4_flow N HH (z_cpy D' (fun _ => 0) 0 0 36) 0 (R' * C') KK BE BB = some (DD, r') ∧ s_cw R' C' 0 KK BE BB HH DD 0 t2 s4 := by
  obtain ⟨at', R', C', os, K', h', D', be', bb', eo, dr, hg⟩ := w
  obtain ⟨g1, g2, g3, g4, g5, g6, g7⟩ := dr
  have hn := s_dim_n g1
  obtain ⟨t2, e4, h4⟩ := p6_lays_c1 N dR N 0 (fun _ => 0) (by omega) (by omega) (by omega) (fun x a b => by omega)
  obtain ⟨s2, e5, h5⟩ := p6_copy bR (m_X6_lays_l2 N bR) (fun f v t => by rw [m_X6_lays_l2]) N 0 (fun _ => 0) (by omega) (by omega) (by omega) (fun x a b => by omega)
  obtain ⟨s3, e6, h6⟩ := p6_lays_c3 N t2 s2 N 0 s2 (by omega) (by omega) (by omega) (fun x => by rw [if_neg (by omega)])
  have kx : ∀ x, 0 ≤ x → x < 36 → z_cpy K' (fun _ => 0) 0 0 36 x = K' x := fun x a b => s_cpy K' (fun _ => 0) 36 x a b
  have hx : ∀ x, 0 ≤ x → x < 36 → z_cpy h' (fun _ => 0) 0 0 36 x = h' x := fun x a b => s_cpy h' (fun _ => 0) 36 x a b
  have dx : ∀ x, 0 ≤ x → x < 36 → z_cpy (s_upto (s_fz K' D') D' (R' * C')) (fun _ => 0) 0 0 36 x = s_upto (s_fz K' D') D' (R' * C') x := fun x a b => s_cpy _ (fun _ => 0) 36 x a b
  have fz : ∀ x, 0 ≤ x → x < 36 → s_upto (s_fz K' D') D' (R' * C') x = if K' x = 2 ∨ K' x = 3 then 0 else D' x := fun x a b => by
    obtain ⟨k1, k2, k3, k4, k5, k6, k7⟩ := g5 x a b
    unfold s_upto s_fz
    by_cases i : 0 ≤ x ∧ x < R' * C'
    · rw [if_pos i]
      by_cases j : K' x = 2 ∨ K' x = 3
      · rw [if_pos j, if_neg (fun z => by omega)]
      · rw [if_neg j, if_pos (by omega)]
    · have := k7 (by omega)
      rw [if_neg i]
      split <;> omega
  have tk : s_tk R' C' (z_cpy K' (fun _ => 0) 0 0 36) t2 := ⟨g1, by rw [h4 0 (by omega) (by omega), hdr 0 (by omega), g2], by rw [h4 1 (by omega) (by omega), hdr 1 (by omega), g3], fun i a b => by rw [h4 _ (by omega) (by omega), hdr _ (by omega), (g5 i a b).1, kx i a b]⟩
  have tx : ∀ x, 0 ≤ x → x < 36 → t2 (3 + x) = K' x := fun x a b => by rw [tk.2.2.2 x a b, kx x a b]
  have ag : s_ag s3 (z_cpy h' (fun _ => 0) 0 0 36) (z_cpy (s_upto (s_fz K' D') D' (R' * C')) (fun _ => 0) 0 0 36) 0 := by
    refine ⟨fun x a b => ?_, fun x a b => ?_, ?_⟩
    · rw [dx x a b, fz x a b, h6 x, tx x a b]
      by_cases j : K' x = 2 ∨ K' x = 3
      · rw [if_pos ⟨a, b, j⟩, if_pos j]
      · rw [if_neg (fun z => j z.2.2), if_neg j, h5 x a (by omega), hbr, (g5 x a b).2.1]
    · rw [hx x a b, h6, if_neg (by omega), h5 _ (by omega) (by omega), hbr, (g5 x a b).2.2.1]
    · rw [h6, if_neg (by omega), h5 _ (by omega) (by omega), hbr, g6]
  have ok : s_ok (R' * C') (z_cpy K' (fun _ => 0) 0 0 36) (z_cpy h' (fun _ => 0) 0 0 36) (z_cpy (s_upto (s_fz K' D') D' (R' * C')) (fun _ => 0) 0 0 36) := fun x a b => by
    obtain ⟨k1, k2, k3, k4, k5, k6, k7⟩ := g5 x a b
    rw [kx x a b, hx x a b, dx x a b, fz x a b]
    by_cases j : K' x = 2 ∨ K' x = 3
    · rw [if_pos j]; exact ⟨k5, by omega, fun _ => rfl⟩
    · rw [if_neg j]
      refine ⟨k5, by omega, fun z => ?_⟩
      exact (k7 (by omega)).1
  have en : s_nb R' C' (z_cpy K' (fun _ => 0) 0 0 36) = s_nb R' C' K' := s_nb_fn g1 kx
  have hg2 : s_gb (R' * C') (s_nb R' C' (z_cpy K' (fun _ => 0) 0 0 36)) (z_cpy be' (fun _ => 0) 0 0 144) (z_cpy bb' (fun _ => 0) 0 0 36) := by
    rw [en]; exact s_gb_cpy (by omega) hg
  have hE := s_env_nb (z_cpy K' (fun _ => 0) 0 0 36) g1
  obtain ⟨r', e7⟩ := p_flow N hN (R' * C') (s_nb R' C' (z_cpy K' (fun _ => 0) 0 0 36)) (z_cpy K' (fun _ => 0) 0 0 36) (z_cpy h' (fun _ => 0) 0 0 36) _ _ _ hE ok hg2 0
  obtain ⟨s4, e8, a8⟩ := p6_flows N hN R' C' 0 _ t2 s3 _ _ tk ag ok
  refine ⟨at', R', C', K', be', h', s_upto (s_fz K' D') D' (R' * C'), bb', t2, s4, r', _, _, _, _, _, eo, ?_, rfl, rfl, rfl, rfl, e7, ⟨g1, hg2, tk, fun i a b => by rw [kx i a b]; exact (g5 i a b).2.2.2.1, a8, s_flow_ok _ _ _ _ _ hE ok, s_flow_rest g1 ok, show (0 : Int) ≤ 0 by omega, show (0 : Int) ≤ 0 by omega⟩⟩
  rw [m_X6_lays, show m_X6_lays_l1 N dR N 0 (fun _ => 0) = some t2 from e4, p_b1, e5, p_b1, e6, p_b1, e8, p_b1]
