/-! the start, both sides -/
theorem o_start (N : Nat) (hN : 1000000 ≤ N) : ∃ d1 b1 t2 s2 at' R C K be bb h D r oR oC om oK obe obb lh lD lhr, m_X6_begins N (fun _ => 0) (fun _ => 0) = some (d1, b1) ∧ m_X6_lays N (fun _ => 0) (z_up (z_up (z_up (z_up d1 7 1) 22 2) 12 3) 14 4) (z_up (z_up (z_up (z_up (z_up (z_up (z_up (z_up b1 42 2) 43 3) 44 6) 47 1) 48 2) 39 4) 53 3) 7 3) (fun _ => 0) 0 0 0 = some (t2, s2, 0, 0, 0) ∧ m_X5_layText N 0 s_T0 70 0 0 0 0 (fun _ => 0) (fun _ => 0) (fun _ => 0) (fun _ => 0) (fun _ => 0) 0 0 0 0 0 (fun _ => 0) (fun _ => 0) (fun _ => 0) (fun _ => 0) (fun _ => 0) 0 0 0 = some (1, 0, at', R, C, R * C, K, be, bb, h, D, 0, r, oR, oC, om, oK, obe, obb, lh, lD, lhr, 0, 0) ∧ s_cw R C 0 K be bb h D 0 t2 s2 := by
  obtain ⟨d, ed, hd⟩ := p6_begins_l1 N N 0 (fun _ => 0) (by omega) (by omega) (by omega) (fun j p q => by omega)
  obtain ⟨b, eb, hb⟩ := p6_begins_l2 N N 0 (fun _ => 0) (by omega) (by omega) (by omega) (fun j p q => by omega)
  have ebg : m_X6_begins N (fun _ => 0) (fun _ => 0) = some (z_up (z_up d 0 4) 1 5, b) := by rw [m_X6_begins, ed, p_b1, z_chk_pos (by omega), z_chk_pos (by omega), eb, p_b1]
  have h2 : z_up (z_up d 0 4) 1 5 2 = 0 := by
    unfold z_up
    rw [if_neg (by omega), if_neg (by omega)]
    exact hd 2 (by omega) (by omega)
  obtain ⟨r, o, d', b', a', e1, e2, e3⟩ := p_read N (by omega) s_T0 (fun _ => 0) (fun _ => 0) (fun _ => 0) (fun _ => 0) (fun _ => 0) (fun _ => 0) (fun _ => 0) 70 0 0 0 0 0 0 s_T0_tx
  have er : ∀ f : Nat, N = f + 14 → m_X6_readsAll_l1 N 70 s_T0 N (z_up (z_up d 0 4) 1 5) b 0 = m_X6_readsAll_l1 N 70 s_T0 (f + 14) (z_up (z_up d 0 4) 1 5) b 0 := fun f e => by rw [← e]
  rw [m_X6_readsAll, ebg, p_b2, er (N - 14) (by omega), q_run N (N - 14) _ _ h2] at e2
  simp only [Option.some.injEq, Prod.mk.injEq] at e2
  obtain ⟨rfl, rfl, rfl, rfl⟩ := e2
  rcases e3 with e3 | ⟨-, w⟩
  · omega
  · obtain ⟨at', R, C, K', be', h', D', bb', t2, s4, r', KK, BE, BB, HH, DD, eo, f1, f2, f3, f4, f5, f6, f7⟩ := p_laid N hN o _ _ (z_up (z_up (z_up (z_up (z_up (z_up d 0 4) 1 5) 7 1) 22 2) 12 3) 14 4) (z_up (z_up (z_up (z_up (z_up (z_up (z_up (z_up b 42 2) 43 3) 44 6) 47 1) 48 2) 39 4) 53 3) 7 3) w (fun j hj => by
      by_cases h0 : j = 0
      · subst h0; rfl
      · by_cases h1 : j = 1
        · subst h1; rfl
        · simp only [z_up, if_neg hj, if_neg h0, if_neg h1]
          rfl) (fun j => rfl)
    subst eo
    refine ⟨_, _, t2, s4, at', R, C, KK, BE, BB, HH, DD, r', R, C, R * C, K', be', bb', h', D', 0, ebg, f1, ?_, f7⟩
    rw [m_X5_layText, e1, p_b11, if_pos rfl, p_copyGround, p_b6, p_copyNow, p_b3, f2, f3, f4, f5, f6, p_b2]
