set_option maxRecDepth 100000 in
theorem k_X2_spread (l : Launch) (G : z_G) (N : Nat) (t_o t_Astate t_Awaiting g_o g_Akind g_Abeside g_AbesideBits w_o w_Aheight w_Adrops : Nat) (t_state : (Int → Int)) (t_waiting : (Int → Int)) (t_waits : Int) (t_cells : Int) (t_many : Int) (g_rows : Int) (g_columns : Int) (g_cells : Int) (g_kind : (Int → Int)) (g_beside : (Int → Int)) (g_besideBits : (Int → Int64)) (w_height : (Int → Int)) (w_drops : (Int → Int)) (w_hours : Int) (w_restless : Int64) (x3 : Int) (h_t_state : z_r t_state) (h_t_waiting : z_r t_waiting) (h_t_waits : z_n t_waits) (h_t_cells : z_n t_cells) (h_t_many : z_n t_many) (h_g_rows : z_n g_rows) (h_g_columns : z_n g_columns) (h_g_cells : z_n g_cells) (h_g_kind : z_r g_kind) (h_g_beside : z_r g_beside) (h_w_height : z_r w_height) (h_w_drops : z_r w_drops) (h_w_hours : z_n w_hours) (h_x3 : z_n x3) (q_t_state : (Int → Int)) (q_t_waiting : (Int → Int)) (q_t_waits : Int) (hm : m_X2_spread N t_state t_waiting t_waits g_beside w_drops x3 = some (q_t_state, q_t_waiting, q_t_waits)) : z_M l G yX2_spread cX2_spread 7 none (k2_rm 1 23) [.ref t_o, .ref g_o, .ref w_o, z_i x3] ([(t_o, z_o 2 [.ref t_Astate, .ref t_Awaiting, z_i t_waits, z_i t_cells, z_i t_many]), (t_Astate, z_a G.2.1 36 t_state), (t_Awaiting, z_a G.2.1 36 t_waiting), (g_o, z_o 0 [z_i g_rows, z_i g_columns, z_i g_cells, .ref g_Akind, .ref g_Abeside, .ref g_AbesideBits]), (g_Akind, z_a G.2.1 36 g_kind), (g_Abeside, z_a G.2.1 144 g_beside), (g_AbesideBits, z_l G.2.2.1 36 g_besideBits), (w_o, z_o 4 [.ref w_Aheight, .ref w_Adrops, z_i w_hours, .long w_restless]), (w_Aheight, z_a G.2.1 36 w_height), (w_Adrops, z_a G.2.1 36 w_drops)]) 0 0 (fun v w => v = none ∧ w = [(t_o, z_o 2 [.ref t_Astate, .ref t_Awaiting, z_i q_t_waits, z_i t_cells, z_i t_many]), (t_Astate, z_a G.2.1 36 q_t_state), (t_Awaiting, z_a G.2.1 36 q_t_waiting), (g_o, z_o 0 [z_i g_rows, z_i g_columns, z_i g_cells, .ref g_Akind, .ref g_Abeside, .ref g_AbesideBits]), (g_Akind, z_a G.2.1 36 g_kind), (g_Abeside, z_a G.2.1 144 g_beside), (g_AbesideBits, z_l G.2.2.1 36 g_besideBits), (w_o, z_o 4 [.ref w_Aheight, .ref w_Adrops, z_i w_hours, .long w_restless]), (w_Aheight, z_a G.2.1 36 w_height), (w_Adrops, z_a G.2.1 36 w_drops)] ∧ z_r q_t_state ∧ z_r q_t_waiting ∧ z_n q_t_waits ∧ True) := by
  unfold m_X2_spread at hm
  refine z_M.intro (by decide +kernel) (Nat.le_of_ble_eq_true rfl) (L := [(0, .ref t_o), (1, .ref g_o), (2, .ref w_o), (3, z_i x3)]) rfl (fun X C E => ?_)
  refine z_aload_n C dX2_spread_0 0 rfl ?_
  refine z_iconst C dX2_spread_1 ?_
  refine z_puti C zf_X2_18 dX2_spread_2 0 rfl rfl (ws' := [(t_o, z_o 2 [.ref t_Astate, .ref t_Awaiting, z_i 0, z_i t_cells, z_i t_many]), (t_Astate, z_a G.2.1 36 t_state), (t_Awaiting, z_a G.2.1 36 t_waiting), (g_o, z_o 0 [z_i g_rows, z_i g_columns, z_i g_cells, .ref g_Akind, .ref g_Abeside, .ref g_AbesideBits]), (g_Akind, z_a G.2.1 36 g_kind), (g_Abeside, z_a G.2.1 144 g_beside), (g_AbesideBits, z_l G.2.2.1 36 g_besideBits), (w_o, z_o 4 [.ref w_Aheight, .ref w_Adrops, z_i w_hours, .long w_restless]), (w_Aheight, z_a G.2.1 36 w_height), (w_Adrops, z_a G.2.1 36 w_drops)]) rfl ?_
  refine z_aload_n C dX2_spread_5 0 rfl ?_
  refine z_aload_n C dX2_spread_6 2 rfl ?_
  refine z_iload_n C dX2_spread_7 3 rfl ?_
  refine z_iload_n C dX2_spread_8 3 rfl ?_
  obtain ⟨t_state_1, t_waiting_2, t_waits_3, k4, hm⟩ := z_b3s hm
  refine z_callVv C (k_X2_claim l G N t_o t_Astate t_Awaiting w_o w_Aheight w_Adrops t_state t_waiting 0 t_cells t_many w_height w_drops w_hours w_restless x3 x3 h_t_state h_t_waiting (z_k 0 rfl) h_t_cells h_t_many h_w_height h_w_drops h_w_hours h_x3 h_x3 t_state_1 t_waiting_2 t_waits_3 k4) zv_X2_claim zl_X2_46 dX2_spread_9 [0, 1, 2, 7, 8, 9] rfl rfl rfl (ws' := [(t_o, z_o 2 [.ref t_Astate, .ref t_Awaiting, z_i t_waits_3, z_i t_cells, z_i t_many]), (t_Astate, z_a G.2.1 36 t_state_1), (t_Awaiting, z_a G.2.1 36 t_waiting_2), (g_o, z_o 0 [z_i g_rows, z_i g_columns, z_i g_cells, .ref g_Akind, .ref g_Abeside, .ref g_AbesideBits]), (g_Akind, z_a G.2.1 36 g_kind), (g_Abeside, z_a G.2.1 144 g_beside), (g_AbesideBits, z_l G.2.2.1 36 g_besideBits), (w_o, z_o 4 [.ref w_Aheight, .ref w_Adrops, z_i w_hours, .long w_restless]), (w_Aheight, z_a G.2.1 36 w_height), (w_Adrops, z_a G.2.1 36 w_drops)]) rfl 0 rfl rfl rfl [] rfl (Nat.le_of_ble_eq_true rfl) ⟨Nat.le_of_ble_eq_true rfl, Nat.le_of_ble_eq_true rfl⟩ ⟨rfl, rfl⟩ ⟨Nat.zero_le _, Nat.zero_le _⟩ (fun hF => ?_)
  obtain ⟨h_t_state_1, h_t_waiting_2, h_t_waits_3, -⟩ := hF
  refine z_iconst C dX2_spread_12 ?_
  refine z_istore C dX2_spread_13 (by decide) (L' := [(4, z_i 0), (0, .ref t_o), (1, .ref g_o), (2, .ref w_o), (3, z_i x3)]) rfl ?_
  obtain ⟨o_t_state_1, o_t_waiting_1, o_t_waits_1, hl, hm⟩ := z_b3s hm
  have JX1 : z_r o_t_state_1 → z_r o_t_waiting_1 → z_n o_t_waits_1 → z_J X 0 0 ([(t_o, z_o 2 [.ref t_Astate, .ref t_Awaiting, z_i o_t_waits_1, z_i t_cells, z_i t_many]), (t_Astate, z_a G.2.1 36 o_t_state_1), (t_Awaiting, z_a G.2.1 36 o_t_waiting_1), (g_o, z_o 0 [z_i g_rows, z_i g_columns, z_i g_cells, .ref g_Akind, .ref g_Abeside, .ref g_AbesideBits]), (g_Akind, z_a G.2.1 36 g_kind), (g_Abeside, z_a G.2.1 144 g_beside), (g_AbesideBits, z_l G.2.2.1 36 g_besideBits), (w_o, z_o 4 [.ref w_Aheight, .ref w_Adrops, z_i w_hours, .long w_restless]), (w_Aheight, z_a G.2.1 36 w_height), (w_Adrops, z_a G.2.1 36 w_drops)]) [] 85 [] := by
    intro h_o_t_state_1 h_o_t_waiting_1 h_o_t_waits_1
    clear hl
    cases hm
    exact z_vret C E dX2_spread_85 ⟨rfl, rfl, h_o_t_state_1, h_o_t_waiting_1, h_o_t_waits_1, trivial⟩
  clear hm
  have L1 : ∀ (n1 : Nat) (v4_1 : Int) (t_state_1 : (Int → Int)) (t_waiting_1 : (Int → Int)) (t_waits_1 : Int), z_n v4_1 → z_r t_state_1 → z_r t_waiting_1 → z_n t_waits_1 → m_X2_spread_l1 N g_beside w_drops x3 n1 v4_1 t_state_1 t_waiting_1 t_waits_1 = some (o_t_state_1, o_t_waiting_1, o_t_waits_1) → z_J X 0 0 ([(t_o, z_o 2 [.ref t_Astate, .ref t_Awaiting, z_i t_waits_1, z_i t_cells, z_i t_many]), (t_Astate, z_a G.2.1 36 t_state_1), (t_Awaiting, z_a G.2.1 36 t_waiting_1), (g_o, z_o 0 [z_i g_rows, z_i g_columns, z_i g_cells, .ref g_Akind, .ref g_Abeside, .ref g_AbesideBits]), (g_Akind, z_a G.2.1 36 g_kind), (g_Abeside, z_a G.2.1 144 g_beside), (g_AbesideBits, z_l G.2.2.1 36 g_besideBits), (w_o, z_o 4 [.ref w_Aheight, .ref w_Adrops, z_i w_hours, .long w_restless]), (w_Aheight, z_a G.2.1 36 w_height), (w_Adrops, z_a G.2.1 36 w_drops)]) [(0, .ref t_o), (1, .ref g_o), (2, .ref w_o), (3, z_i x3), (4, z_i v4_1)] 15 [] := by
    clear hl
    intro n1
    induction n1 with
    | zero =>
      intro v4_1 t_state_1 t_waiting_1 t_waits_1 h_v4_1 h_t_state_1 h_t_waiting_1 h_t_waits_1 hm
      rw [m_X2_spread_l1] at hm
      cases hm
    | succ n1 ih1 =>
      intro v4_1 t_state_1 t_waiting_1 t_waits_1 h_v4_1 h_t_state_1 h_t_waiting_1 h_t_waits_1 hm
      rw [m_X2_spread_l1] at hm
      refine z_iload C dX2_spread_15 4 rfl ?_
      refine z_bipush C dX2_spread_17 (by decide) ?_
      refine z_icmp_ge (tgt := 85) C h_v4_1 (z_k 36 rfl) dX2_spread_19 (by decide) (fun c5 => ?_) (fun c5 => ?_)
      · have hm := z_pos c5 hm
        refine z_sub (L' := []) [] rfl ?_
        cases hm
        exact JX1 h_t_state_1 h_t_waiting_1 h_t_waits_1
      · have hm := z_neg c5 hm
        refine z_aload_n C dX2_spread_22 0 rfl ?_
        refine z_get C zf_X2_18 dX2_spread_23 0 rfl rfl ?_
        refine z_if_le (tgt := 85) C h_t_waits_1 dX2_spread_26 (by decide) (fun c6 => ?_) (fun c6 => ?_)
        · have hm := z_pos c6 hm
          refine z_sub (L' := []) [] rfl ?_
          cases hm
          exact JX1 h_t_state_1 h_t_waiting_1 h_t_waits_1
        · have hm := z_neg c6 hm
          refine z_aload_n C dX2_spread_29 0 rfl ?_
          refine z_dup C rfl dX2_spread_30 ?_
          refine z_get C zf_X2_18 dX2_spread_31 0 rfl rfl ?_
          refine z_iconst C dX2_spread_34 ?_
          obtain ⟨c7, hm⟩ := z_chk_some hm
          refine z_isub C dX2_spread_35 ?_
          refine z_puti C zf_X2_18 dX2_spread_36 0 rfl rfl (ws' := [(t_o, z_o 2 [.ref t_Astate, .ref t_Awaiting, z_i (t_waits_1 - 1), z_i t_cells, z_i t_many]), (t_Astate, z_a G.2.1 36 t_state_1), (t_Awaiting, z_a G.2.1 36 t_waiting_1), (g_o, z_o 0 [z_i g_rows, z_i g_columns, z_i g_cells, .ref g_Akind, .ref g_Abeside, .ref g_AbesideBits]), (g_Akind, z_a G.2.1 36 g_kind), (g_Abeside, z_a G.2.1 144 g_beside), (g_AbesideBits, z_l G.2.2.1 36 g_besideBits), (w_o, z_o 4 [.ref w_Aheight, .ref w_Adrops, z_i w_hours, .long w_restless]), (w_Aheight, z_a G.2.1 36 w_height), (w_Adrops, z_a G.2.1 36 w_drops)]) rfl ?_
          refine z_aload_n C dX2_spread_39 0 rfl ?_
          refine z_get C zf_X2_15 dX2_spread_40 0 rfl rfl ?_
          refine z_aload_n C dX2_spread_43 0 rfl ?_
          refine z_get C zf_X2_18 dX2_spread_44 0 rfl rfl ?_
          obtain ⟨c8, hm⟩ := z_chk_some hm
          refine z_iald C dX2_spread_47 2 rfl c8 c7 ?_
          refine z_istore C dX2_spread_48 (by decide) (L' := [(5, z_i (t_waiting_1 (t_waits_1 - 1))), (0, .ref t_o), (1, .ref g_o), (2, .ref w_o), (3, z_i x3), (4, z_i v4_1)]) rfl ?_
          refine z_iconst C dX2_spread_50 ?_
          refine z_istore C dX2_spread_51 (by decide) (L' := [(6, z_i 0), (5, z_i (t_waiting_1 (t_waits_1 - 1))), (0, .ref t_o), (1, .ref g_o), (2, .ref w_o), (3, z_i x3), (4, z_i v4_1)]) rfl ?_
          obtain ⟨o_t_state_2, o_t_waiting_2, o_t_waits_2, hl, hm⟩ := z_b3s hm
          have JX2 : z_r o_t_state_2 → z_r o_t_waiting_2 → z_n o_t_waits_2 → z_J X 0 0 ([(t_o, z_o 2 [.ref t_Astate, .ref t_Awaiting, z_i o_t_waits_2, z_i t_cells, z_i t_many]), (t_Astate, z_a G.2.1 36 o_t_state_2), (t_Awaiting, z_a G.2.1 36 o_t_waiting_2), (g_o, z_o 0 [z_i g_rows, z_i g_columns, z_i g_cells, .ref g_Akind, .ref g_Abeside, .ref g_AbesideBits]), (g_Akind, z_a G.2.1 36 g_kind), (g_Abeside, z_a G.2.1 144 g_beside), (g_AbesideBits, z_l G.2.2.1 36 g_besideBits), (w_o, z_o 4 [.ref w_Aheight, .ref w_Adrops, z_i w_hours, .long w_restless]), (w_Aheight, z_a G.2.1 36 w_height), (w_Adrops, z_a G.2.1 36 w_drops)]) [(0, .ref t_o), (1, .ref g_o), (2, .ref w_o), (3, z_i x3), (4, z_i v4_1)] 79 [] := by
            intro h_o_t_state_2 h_o_t_waiting_2 h_o_t_waits_2
            clear hl
            obtain ⟨c17, hm⟩ := z_chk_some hm
            refine z_iinc C dX2_spread_79 4 rfl (by decide) (L' := [(4, z_i (v4_1 + 1)), (0, .ref t_o), (1, .ref g_o), (2, .ref w_o), (3, z_i x3)]) rfl ?_
            refine z_goto (tgt := 15) C dX2_spread_82 (by decide) ?_
            refine z_sub (L' := [(0, .ref t_o), (1, .ref g_o), (2, .ref w_o), (3, z_i x3), (4, z_i (v4_1 + 1))]) [1, 2, 3, 4, 0] rfl ?_
            exact ih1 (v4_1 + 1) o_t_state_2 o_t_waiting_2 o_t_waits_2 c17 h_o_t_state_2 h_o_t_waiting_2 h_o_t_waits_2 hm
          clear hm
          have L2 : ∀ (n2 : Nat) (v6_2 : Int) (t_state_2 : (Int → Int)) (t_waiting_2 : (Int → Int)) (t_waits_2 : Int), z_n v6_2 → z_r t_state_2 → z_r t_waiting_2 → z_n t_waits_2 → m_X2_spread_l2 N g_beside (t_waiting_1 (t_waits_1 - 1)) w_drops x3 n2 v6_2 t_state_2 t_waiting_2 t_waits_2 = some (o_t_state_2, o_t_waiting_2, o_t_waits_2) → z_J X 0 0 ([(t_o, z_o 2 [.ref t_Astate, .ref t_Awaiting, z_i t_waits_2, z_i t_cells, z_i t_many]), (t_Astate, z_a G.2.1 36 t_state_2), (t_Awaiting, z_a G.2.1 36 t_waiting_2), (g_o, z_o 0 [z_i g_rows, z_i g_columns, z_i g_cells, .ref g_Akind, .ref g_Abeside, .ref g_AbesideBits]), (g_Akind, z_a G.2.1 36 g_kind), (g_Abeside, z_a G.2.1 144 g_beside), (g_AbesideBits, z_l G.2.2.1 36 g_besideBits), (w_o, z_o 4 [.ref w_Aheight, .ref w_Adrops, z_i w_hours, .long w_restless]), (w_Aheight, z_a G.2.1 36 w_height), (w_Adrops, z_a G.2.1 36 w_drops)]) [(0, .ref t_o), (1, .ref g_o), (2, .ref w_o), (3, z_i x3), (4, z_i v4_1), (5, z_i (t_waiting_1 (t_waits_1 - 1))), (6, z_i v6_2)] 53 [] := by
            clear hl
            intro n2
            induction n2 with
            | zero =>
              intro v6_2 t_state_2 t_waiting_2 t_waits_2 h_v6_2 h_t_state_2 h_t_waiting_2 h_t_waits_2 hm
              rw [m_X2_spread_l2] at hm
              cases hm
            | succ n2 ih2 =>
              intro v6_2 t_state_2 t_waiting_2 t_waits_2 h_v6_2 h_t_state_2 h_t_waiting_2 h_t_waits_2 hm
              rw [m_X2_spread_l2] at hm
              refine z_iload C dX2_spread_53 6 rfl ?_
              refine z_iconst C dX2_spread_55 ?_
              refine z_icmp_ge (tgt := 79) C h_v6_2 (z_k 4 rfl) dX2_spread_56 (by decide) (fun c9 => ?_) (fun c9 => ?_)
              · have hm := z_pos c9 hm
                refine z_sub (L' := [(0, .ref t_o), (1, .ref g_o), (2, .ref w_o), (3, z_i x3), (4, z_i v4_1)]) [0, 1, 2, 3, 4] rfl ?_
                cases hm
                exact JX2 h_t_state_2 h_t_waiting_2 h_t_waits_2
              · have hm := z_neg c9 hm
                refine z_aload_n C dX2_spread_59 0 rfl ?_
                refine z_aload_n C dX2_spread_60 2 rfl ?_
                refine z_aload_n C dX2_spread_61 1 rfl ?_
                refine z_iload C dX2_spread_62 5 rfl ?_
                refine z_iload C dX2_spread_64 6 rfl ?_
                obtain ⟨r10, k11, hm⟩ := z_b1s hm
                refine z_callVi C (k_X0_cellBeside l G N g_o g_Akind g_Abeside g_AbesideBits g_rows g_columns g_cells g_kind g_beside g_besideBits (t_waiting_1 (t_waits_1 - 1)) v6_2 h_g_rows h_g_columns h_g_cells h_g_kind h_g_beside (h_t_waiting_1 _) h_v6_2 r10 k11) zv_X0_cellBeside zl_X2_50 dX2_spread_66 [3, 4, 5, 6] rfl rfl rfl (ws' := [(t_o, z_o 2 [.ref t_Astate, .ref t_Awaiting, z_i t_waits_2, z_i t_cells, z_i t_many]), (t_Astate, z_a G.2.1 36 t_state_2), (t_Awaiting, z_a G.2.1 36 t_waiting_2), (g_o, z_o 0 [z_i g_rows, z_i g_columns, z_i g_cells, .ref g_Akind, .ref g_Abeside, .ref g_AbesideBits]), (g_Akind, z_a G.2.1 36 g_kind), (g_Abeside, z_a G.2.1 144 g_beside), (g_AbesideBits, z_l G.2.2.1 36 g_besideBits), (w_o, z_o 4 [.ref w_Aheight, .ref w_Adrops, z_i w_hours, .long w_restless]), (w_Aheight, z_a G.2.1 36 w_height), (w_Adrops, z_a G.2.1 36 w_drops)]) rfl 3 rfl rfl rfl [.ref w_o, .ref t_o] rfl (Nat.le_of_ble_eq_true rfl) ⟨Nat.le_of_ble_eq_true rfl, Nat.le_of_ble_eq_true rfl⟩ ⟨rfl, rfl⟩ ⟨Nat.zero_le _, Nat.zero_le _⟩ (fun hF => ?_)
                obtain ⟨h_r10, -⟩ := hF
                refine z_iload_n C dX2_spread_69 3 rfl ?_
                obtain ⟨t_state_12, t_waiting_13, t_waits_14, k15, hm⟩ := z_b3s hm
                refine z_callVv C (k_X2_claim l G N t_o t_Astate t_Awaiting w_o w_Aheight w_Adrops t_state_2 t_waiting_2 t_waits_2 t_cells t_many w_height w_drops w_hours w_restless r10 x3 h_t_state_2 h_t_waiting_2 h_t_waits_2 h_t_cells h_t_many h_w_height h_w_drops h_w_hours h_r10 h_x3 t_state_12 t_waiting_13 t_waits_14 k15) zv_X2_claim zl_X2_46 dX2_spread_70 [0, 1, 2, 7, 8, 9] rfl rfl rfl (ws' := [(t_o, z_o 2 [.ref t_Astate, .ref t_Awaiting, z_i t_waits_14, z_i t_cells, z_i t_many]), (t_Astate, z_a G.2.1 36 t_state_12), (t_Awaiting, z_a G.2.1 36 t_waiting_13), (g_o, z_o 0 [z_i g_rows, z_i g_columns, z_i g_cells, .ref g_Akind, .ref g_Abeside, .ref g_AbesideBits]), (g_Akind, z_a G.2.1 36 g_kind), (g_Abeside, z_a G.2.1 144 g_beside), (g_AbesideBits, z_l G.2.2.1 36 g_besideBits), (w_o, z_o 4 [.ref w_Aheight, .ref w_Adrops, z_i w_hours, .long w_restless]), (w_Aheight, z_a G.2.1 36 w_height), (w_Adrops, z_a G.2.1 36 w_drops)]) rfl 0 rfl rfl rfl [] rfl (Nat.le_of_ble_eq_true rfl) ⟨Nat.le_of_ble_eq_true rfl, Nat.le_of_ble_eq_true rfl⟩ ⟨rfl, rfl⟩ ⟨Nat.zero_le _, Nat.zero_le _⟩ (fun hF => ?_)
                obtain ⟨h_t_state_12, h_t_waiting_13, h_t_waits_14, -⟩ := hF
                obtain ⟨c16, hm⟩ := z_chk_some hm
                refine z_iinc C dX2_spread_73 6 rfl (by decide) (L' := [(6, z_i (v6_2 + 1)), (0, .ref t_o), (1, .ref g_o), (2, .ref w_o), (3, z_i x3), (4, z_i v4_1), (5, z_i (t_waiting_1 (t_waits_1 - 1)))]) rfl ?_
                refine z_goto (tgt := 53) C dX2_spread_76 (by decide) ?_
                refine z_sub (L' := [(0, .ref t_o), (1, .ref g_o), (2, .ref w_o), (3, z_i x3), (4, z_i v4_1), (5, z_i (t_waiting_1 (t_waits_1 - 1))), (6, z_i (v6_2 + 1))]) [1, 2, 3, 4, 5, 6, 0] rfl ?_
                exact ih2 (v6_2 + 1) t_state_12 t_waiting_13 t_waits_14 c16 h_t_state_12 h_t_waiting_13 h_t_waits_14 hm
          refine z_sub (L' := [(0, .ref t_o), (1, .ref g_o), (2, .ref w_o), (3, z_i x3), (4, z_i v4_1), (5, z_i (t_waiting_1 (t_waits_1 - 1))), (6, z_i 0)]) [2, 3, 4, 5, 6, 1, 0] rfl ?_
          exact L2 N 0 t_state_1 t_waiting_1 (t_waits_1 - 1) (z_k 0 rfl) h_t_state_1 h_t_waiting_1 c7 hl
  refine z_sub (L' := [(0, .ref t_o), (1, .ref g_o), (2, .ref w_o), (3, z_i x3), (4, z_i 0)]) [1, 2, 3, 4, 0] rfl ?_
  exact L1 N 0 t_state_1 t_waiting_2 t_waits_3 (z_k 0 rfl) h_t_state_1 h_t_waiting_2 h_t_waits_3 hl
set_option maxRecDepth 100000 in
theorem k_X2_map (l : Launch) (G : z_G) (N : Nat) (t_o t_Astate t_Awaiting g_o g_Akind g_Abeside g_AbesideBits w_o w_Aheight w_Adrops : Nat) (t_state : (Int → Int)) (t_waiting : (Int → Int)) (t_waits : Int) (t_cells : Int) (t_many : Int) (g_rows : Int) (g_columns : Int) (g_cells : Int) (g_kind : (Int → Int)) (g_beside : (Int → Int)) (g_besideBits : (Int → Int64)) (w_height : (Int → Int)) (w_drops : (Int → Int)) (w_hours : Int) (w_restless : Int64) (h_t_state : z_r t_state) (h_t_waiting : z_r t_waiting) (h_t_waits : z_n t_waits) (h_t_cells : z_n t_cells) (h_t_many : z_n t_many) (h_g_rows : z_n g_rows) (h_g_columns : z_n g_columns) (h_g_cells : z_n g_cells) (h_g_kind : z_r g_kind) (h_g_beside : z_r g_beside) (h_w_height : z_r w_height) (h_w_drops : z_r w_drops) (h_w_hours : z_n w_hours) (q_t_state : (Int → Int)) (q_t_waiting : (Int → Int)) (q_t_waits : Int) (q_t_cells : Int) (q_t_many : Int) (hm : m_X2_map N t_state t_waiting t_waits t_cells t_many g_cells g_beside w_drops = some (q_t_state, q_t_waiting, q_t_waits, q_t_cells, q_t_many)) : z_M l G yX2_map cX2_map 4 none (k2_rm 2 49) [.ref t_o, .ref g_o, .ref w_o] ([(t_o, z_o 2 [.ref t_Astate, .ref t_Awaiting, z_i t_waits, z_i t_cells, z_i t_many]), (t_Astate, z_a G.2.1 36 t_state), (t_Awaiting, z_a G.2.1 36 t_waiting), (g_o, z_o 0 [z_i g_rows, z_i g_columns, z_i g_cells, .ref g_Akind, .ref g_Abeside, .ref g_AbesideBits]), (g_Akind, z_a G.2.1 36 g_kind), (g_Abeside, z_a G.2.1 144 g_beside), (g_AbesideBits, z_l G.2.2.1 36 g_besideBits), (w_o, z_o 4 [.ref w_Aheight, .ref w_Adrops, z_i w_hours, .long w_restless]), (w_Aheight, z_a G.2.1 36 w_height), (w_Adrops, z_a G.2.1 36 w_drops)]) 0 0 (fun v w => v = none ∧ w = [(t_o, z_o 2 [.ref t_Astate, .ref t_Awaiting, z_i q_t_waits, z_i q_t_cells, z_i q_t_many]), (t_Astate, z_a G.2.1 36 q_t_state), (t_Awaiting, z_a G.2.1 36 q_t_waiting), (g_o, z_o 0 [z_i g_rows, z_i g_columns, z_i g_cells, .ref g_Akind, .ref g_Abeside, .ref g_AbesideBits]), (g_Akind, z_a G.2.1 36 g_kind), (g_Abeside, z_a G.2.1 144 g_beside), (g_AbesideBits, z_l G.2.2.1 36 g_besideBits), (w_o, z_o 4 [.ref w_Aheight, .ref w_Adrops, z_i w_hours, .long w_restless]), (w_Aheight, z_a G.2.1 36 w_height), (w_Adrops, z_a G.2.1 36 w_drops)] ∧ z_r q_t_state ∧ z_r q_t_waiting ∧ z_n q_t_waits ∧ z_n q_t_cells ∧ z_n q_t_many ∧ True) := by
  unfold m_X2_map at hm
  refine z_M.intro (by decide +kernel) (Nat.le_of_ble_eq_true rfl) (L := [(0, .ref t_o), (1, .ref g_o), (2, .ref w_o)]) rfl (fun X C E => ?_)
  refine z_aload_n C dX2_map_0 0 rfl ?_
  refine z_get C zf_X2_9 dX2_map_1 0 rfl rfl ?_
  refine z_bipush C dX2_map_4 (by decide) ?_
  obtain ⟨t_state_1, k2, hm⟩ := z_b1s hm
  refine z_callSv C (k_J7_fill_53178 l G N t_Astate 36 t_state (-4) (z_k 36 rfl) h_t_state (z_k (-4) rfl) t_state_1 k2) zs_J7_fill_53178 zl_X2_28 dX2_map_6 [1] rfl rfl rfl (ws' := [(t_o, z_o 2 [.ref t_Astate, .ref t_Awaiting, z_i t_waits, z_i t_cells, z_i t_many]), (t_Astate, z_a G.2.1 36 t_state_1), (t_Awaiting, z_a G.2.1 36 t_waiting), (g_o, z_o 0 [z_i g_rows, z_i g_columns, z_i g_cells, .ref g_Akind, .ref g_Abeside, .ref g_AbesideBits]), (g_Akind, z_a G.2.1 36 g_kind), (g_Abeside, z_a G.2.1 144 g_beside), (g_AbesideBits, z_l G.2.2.1 36 g_besideBits), (w_o, z_o 4 [.ref w_Aheight, .ref w_Adrops, z_i w_hours, .long w_restless]), (w_Aheight, z_a G.2.1 36 w_height), (w_Adrops, z_a G.2.1 36 w_drops)]) rfl rfl [] rfl (Nat.le_of_ble_eq_true rfl) ⟨Nat.le_of_ble_eq_true rfl, Nat.le_of_ble_eq_true rfl⟩ ⟨rfl, rfl⟩ ⟨Nat.zero_le _, Nat.zero_le _⟩ (fun hF => ?_)
  obtain ⟨h_t_state_1, -⟩ := hF
  refine z_aload_n C dX2_map_9 0 rfl ?_
  refine z_aload_n C dX2_map_10 1 rfl ?_
  refine z_get C zf_X2_34 dX2_map_11 3 rfl rfl ?_
  refine z_puti C zf_X2_22 dX2_map_14 0 rfl rfl (ws' := [(t_o, z_o 2 [.ref t_Astate, .ref t_Awaiting, z_i t_waits, z_i g_cells, z_i t_many]), (t_Astate, z_a G.2.1 36 t_state_1), (t_Awaiting, z_a G.2.1 36 t_waiting), (g_o, z_o 0 [z_i g_rows, z_i g_columns, z_i g_cells, .ref g_Akind, .ref g_Abeside, .ref g_AbesideBits]), (g_Akind, z_a G.2.1 36 g_kind), (g_Abeside, z_a G.2.1 144 g_beside), (g_AbesideBits, z_l G.2.2.1 36 g_besideBits), (w_o, z_o 4 [.ref w_Aheight, .ref w_Adrops, z_i w_hours, .long w_restless]), (w_Aheight, z_a G.2.1 36 w_height), (w_Adrops, z_a G.2.1 36 w_drops)]) rfl ?_
  refine z_aload_n C dX2_map_17 0 rfl ?_
  refine z_iconst C dX2_map_18 ?_
  refine z_puti C zf_X2_25 dX2_map_19 0 rfl rfl (ws' := [(t_o, z_o 2 [.ref t_Astate, .ref t_Awaiting, z_i t_waits, z_i g_cells, z_i 0]), (t_Astate, z_a G.2.1 36 t_state_1), (t_Awaiting, z_a G.2.1 36 t_waiting), (g_o, z_o 0 [z_i g_rows, z_i g_columns, z_i g_cells, .ref g_Akind, .ref g_Abeside, .ref g_AbesideBits]), (g_Akind, z_a G.2.1 36 g_kind), (g_Abeside, z_a G.2.1 144 g_beside), (g_AbesideBits, z_l G.2.2.1 36 g_besideBits), (w_o, z_o 4 [.ref w_Aheight, .ref w_Adrops, z_i w_hours, .long w_restless]), (w_Aheight, z_a G.2.1 36 w_height), (w_Adrops, z_a G.2.1 36 w_drops)]) rfl ?_
  refine z_iconst C dX2_map_22 ?_
  refine z_istore_n C dX2_map_23 (by decide) (L' := [(3, z_i 0), (0, .ref t_o), (1, .ref g_o), (2, .ref w_o)]) rfl ?_
  obtain ⟨o_t_state_1, o_t_waiting_1, o_t_waits_1, o_t_many_1, hl, hm⟩ := z_b4s hm
  have JX1 : z_r o_t_state_1 → z_r o_t_waiting_1 → z_n o_t_waits_1 → z_n o_t_many_1 → z_J X 0 0 ([(t_o, z_o 2 [.ref t_Astate, .ref t_Awaiting, z_i o_t_waits_1, z_i g_cells, z_i o_t_many_1]), (t_Astate, z_a G.2.1 36 o_t_state_1), (t_Awaiting, z_a G.2.1 36 o_t_waiting_1), (g_o, z_o 0 [z_i g_rows, z_i g_columns, z_i g_cells, .ref g_Akind, .ref g_Abeside, .ref g_AbesideBits]), (g_Akind, z_a G.2.1 36 g_kind), (g_Abeside, z_a G.2.1 144 g_beside), (g_AbesideBits, z_l G.2.2.1 36 g_besideBits), (w_o, z_o 4 [.ref w_Aheight, .ref w_Adrops, z_i w_hours, .long w_restless]), (w_Aheight, z_a G.2.1 36 w_height), (w_Adrops, z_a G.2.1 36 w_drops)]) [] 81 [] := by
    intro h_o_t_state_1 h_o_t_waiting_1 h_o_t_waits_1 h_o_t_many_1
    clear hl
    cases hm
    exact z_vret C E dX2_map_81 ⟨rfl, rfl, h_o_t_state_1, h_o_t_waiting_1, h_o_t_waits_1, h_g_cells, h_o_t_many_1, trivial⟩
  clear hm
  have L1 : ∀ (n1 : Nat) (v3_1 : Int) (t_state_1 : (Int → Int)) (t_waiting_1 : (Int → Int)) (t_waits_1 : Int) (t_many_1 : Int), z_n v3_1 → z_r t_state_1 → z_r t_waiting_1 → z_n t_waits_1 → z_n t_many_1 → m_X2_map_l1 N g_cells w_drops g_beside n1 v3_1 t_state_1 t_waiting_1 t_waits_1 t_many_1 = some (o_t_state_1, o_t_waiting_1, o_t_waits_1, o_t_many_1) → z_J X 0 0 ([(t_o, z_o 2 [.ref t_Astate, .ref t_Awaiting, z_i t_waits_1, z_i g_cells, z_i t_many_1]), (t_Astate, z_a G.2.1 36 t_state_1), (t_Awaiting, z_a G.2.1 36 t_waiting_1), (g_o, z_o 0 [z_i g_rows, z_i g_columns, z_i g_cells, .ref g_Akind, .ref g_Abeside, .ref g_AbesideBits]), (g_Akind, z_a G.2.1 36 g_kind), (g_Abeside, z_a G.2.1 144 g_beside), (g_AbesideBits, z_l G.2.2.1 36 g_besideBits), (w_o, z_o 4 [.ref w_Aheight, .ref w_Adrops, z_i w_hours, .long w_restless]), (w_Aheight, z_a G.2.1 36 w_height), (w_Adrops, z_a G.2.1 36 w_drops)]) [(0, .ref t_o), (1, .ref g_o), (2, .ref w_o), (3, z_i v3_1)] 24 [] := by
    clear hl
    intro n1
    induction n1 with
    | zero =>
      intro v3_1 t_state_1 t_waiting_1 t_waits_1 t_many_1 h_v3_1 h_t_state_1 h_t_waiting_1 h_t_waits_1 h_t_many_1 hm
      rw [m_X2_map_l1] at hm
      cases hm
    | succ n1 ih1 =>
      intro v3_1 t_state_1 t_waiting_1 t_waits_1 t_many_1 h_v3_1 h_t_state_1 h_t_waiting_1 h_t_waits_1 h_t_many_1 hm
      rw [m_X2_map_l1] at hm
      refine z_iload_n C dX2_map_24 3 rfl ?_
      refine z_aload_n C dX2_map_25 1 rfl ?_
      refine z_get C zf_X2_34 dX2_map_26 3 rfl rfl ?_
      refine z_icmp_ge (tgt := 81) C h_v3_1 h_g_cells dX2_map_29 (by decide) (fun c3 => ?_) (fun c3 => ?_)
      · have hm := z_pos c3 hm
        refine z_sub (L' := []) [] rfl ?_
        cases hm
        exact JX1 h_t_state_1 h_t_waiting_1 h_t_waits_1 h_t_many_1
      · have hm := z_neg c3 hm
        refine z_iload_n C dX2_map_32 3 rfl ?_
        refine z_bipush C dX2_map_33 (by decide) ?_
        refine z_icmp_ge (tgt := 81) C h_v3_1 (z_k 36 rfl) dX2_map_35 (by decide) (fun c4 => ?_) (fun c4 => ?_)
        · have hm := z_pos c4 hm
          refine z_sub (L' := []) [] rfl ?_
          cases hm
          exact JX1 h_t_state_1 h_t_waiting_1 h_t_waits_1 h_t_many_1
        · have hm := z_neg c4 hm
          refine z_aload_n C dX2_map_38 2 rfl ?_
          refine z_get C zf_X2_37 dX2_map_39 7 rfl rfl ?_
          refine z_iload_n C dX2_map_42 3 rfl ?_
          obtain ⟨c5, hm⟩ := z_chk_some hm
          refine z_iald C dX2_map_43 9 rfl c5 h_v3_1 ?_
          refine z_if_le (tgt := 75) C (h_w_drops _) dX2_map_44 (by decide) (fun c6 => ?_) (fun c6 => ?_)
          · have hm := z_pos c6 hm
            obtain ⟨c7, hm⟩ := z_chk_some hm
            refine z_iinc C dX2_map_75 3 rfl (by decide) (L' := [(3, z_i (v3_1 + 1)), (0, .ref t_o), (1, .ref g_o), (2, .ref w_o)]) rfl ?_
            refine z_goto (tgt := 24) C dX2_map_78 (by decide) ?_
            refine z_sub (L' := [(0, .ref t_o), (1, .ref g_o), (2, .ref w_o), (3, z_i (v3_1 + 1))]) [1, 2, 3, 0] rfl ?_
            exact ih1 (v3_1 + 1) t_state_1 t_waiting_1 t_waits_1 t_many_1 c7 h_t_state_1 h_t_waiting_1 h_t_waits_1 h_t_many_1 hm
          · have hm := z_neg c6 hm
            refine z_aload_n C dX2_map_47 0 rfl ?_
            refine z_get C zf_X2_9 dX2_map_48 0 rfl rfl ?_
            refine z_iload_n C dX2_map_51 3 rfl ?_
            obtain ⟨c8, hm⟩ := z_chk_some hm
            refine z_iald C dX2_map_52 1 rfl c8 h_v3_1 ?_
            refine z_bipush C dX2_map_53 (by decide) ?_
            refine z_icmp_ne (tgt := 75) C (h_t_state_1 _) (z_k (-4) rfl) dX2_map_55 (by decide) (fun c9 => ?_) (fun c9 => ?_)
            · have hm := z_pos c9 hm
              obtain ⟨c10, hm⟩ := z_chk_some hm
              refine z_iinc C dX2_map_75 3 rfl (by decide) (L' := [(3, z_i (v3_1 + 1)), (0, .ref t_o), (1, .ref g_o), (2, .ref w_o)]) rfl ?_
              refine z_goto (tgt := 24) C dX2_map_78 (by decide) ?_
              refine z_sub (L' := [(0, .ref t_o), (1, .ref g_o), (2, .ref w_o), (3, z_i (v3_1 + 1))]) [1, 2, 3, 0] rfl ?_
              exact ih1 (v3_1 + 1) t_state_1 t_waiting_1 t_waits_1 t_many_1 c10 h_t_state_1 h_t_waiting_1 h_t_waits_1 h_t_many_1 hm
            · have hm := z_neg c9 hm
              refine z_aload_n C dX2_map_58 0 rfl ?_
              refine z_dup C rfl dX2_map_59 ?_
              refine z_get C zf_X2_25 dX2_map_60 0 rfl rfl ?_
              refine z_iconst C dX2_map_63 ?_
              obtain ⟨c11, hm⟩ := z_chk_some hm
              refine z_iadd C dX2_map_64 ?_
              refine z_puti C zf_X2_25 dX2_map_65 0 rfl rfl (ws' := [(t_o, z_o 2 [.ref t_Astate, .ref t_Awaiting, z_i t_waits_1, z_i g_cells, z_i (t_many_1 + 1)]), (t_Astate, z_a G.2.1 36 t_state_1), (t_Awaiting, z_a G.2.1 36 t_waiting_1), (g_o, z_o 0 [z_i g_rows, z_i g_columns, z_i g_cells, .ref g_Akind, .ref g_Abeside, .ref g_AbesideBits]), (g_Akind, z_a G.2.1 36 g_kind), (g_Abeside, z_a G.2.1 144 g_beside), (g_AbesideBits, z_l G.2.2.1 36 g_besideBits), (w_o, z_o 4 [.ref w_Aheight, .ref w_Adrops, z_i w_hours, .long w_restless]), (w_Aheight, z_a G.2.1 36 w_height), (w_Adrops, z_a G.2.1 36 w_drops)]) rfl ?_
              refine z_aload_n C dX2_map_68 0 rfl ?_
              refine z_aload_n C dX2_map_69 1 rfl ?_
              refine z_aload_n C dX2_map_70 2 rfl ?_
              refine z_iload_n C dX2_map_71 3 rfl ?_
              obtain ⟨t_state_12, t_waiting_13, t_waits_14, k15, hm⟩ := z_b3s hm
              refine z_callVvd C (k_X2_spread l G N t_o t_Astate t_Awaiting g_o g_Akind g_Abeside g_AbesideBits w_o w_Aheight w_Adrops t_state_1 t_waiting_1 t_waits_1 g_cells (t_many_1 + 1) g_rows g_columns g_cells g_kind g_beside g_besideBits w_height w_drops w_hours w_restless v3_1 h_t_state_1 h_t_waiting_1 h_t_waits_1 h_g_cells c11 h_g_rows h_g_columns h_g_cells h_g_kind h_g_beside h_w_height h_w_drops h_w_hours h_v3_1 t_state_12 t_waiting_13 t_waits_14 k15) zv_X2_spread zl_X2_42 dX2_map_72 rfl 0 rfl rfl rfl [] rfl (Nat.le_of_ble_eq_true rfl) ⟨Nat.le_of_ble_eq_true rfl, Nat.le_of_ble_eq_true rfl⟩ ⟨rfl, rfl⟩ ⟨Nat.zero_le _, Nat.zero_le _⟩ (fun hF => ?_)
              obtain ⟨h_t_state_12, h_t_waiting_13, h_t_waits_14, -⟩ := hF
              obtain ⟨c16, hm⟩ := z_chk_some hm
              refine z_iinc C dX2_map_75 3 rfl (by decide) (L' := [(3, z_i (v3_1 + 1)), (0, .ref t_o), (1, .ref g_o), (2, .ref w_o)]) rfl ?_
              refine z_goto (tgt := 24) C dX2_map_78 (by decide) ?_
              refine z_sub (L' := [(0, .ref t_o), (1, .ref g_o), (2, .ref w_o), (3, z_i (v3_1 + 1))]) [1, 2, 3, 0] rfl ?_
              exact ih1 (v3_1 + 1) t_state_12 t_waiting_13 t_waits_14 (t_many_1 + 1) c16 h_t_state_12 h_t_waiting_13 h_t_waits_14 c11 hm
  refine z_sub (L' := [(0, .ref t_o), (1, .ref g_o), (2, .ref w_o), (3, z_i 0)]) [1, 2, 3, 0] rfl ?_
  exact L1 N 0 t_state_1 t_waiting t_waits 0 (z_k 0 rfl) h_t_state_1 h_t_waiting h_t_waits (z_k 0 rfl) hl
set_option maxRecDepth 100000 in
theorem k_X2_stateOf (l : Launch) (G : z_G) (N : Nat) (t_o t_Astate t_Awaiting : Nat) (t_state : (Int → Int)) (t_waiting : (Int → Int)) (t_waits : Int) (t_cells : Int) (t_many : Int) (x1 : Int) (h_t_state : z_r t_state) (h_t_waiting : z_r t_waiting) (h_t_waits : z_n t_waits) (h_t_cells : z_n t_cells) (h_t_many : z_n t_many) (h_x1 : z_n x1) (rr : Int) (hm : m_X2_stateOf N t_state t_cells x1 = some (rr)) : z_M l G yX2_stateOf cX2_stateOf 2 (some .int) (k2_rm 0 0) [.ref t_o, z_i x1] ([(t_o, z_o 2 [.ref t_Astate, .ref t_Awaiting, z_i t_waits, z_i t_cells, z_i t_many]), (t_Astate, z_a G.2.1 36 t_state), (t_Awaiting, z_a G.2.1 36 t_waiting)]) 0 0 (fun v w => v = some (z_i rr) ∧ w = [(t_o, z_o 2 [.ref t_Astate, .ref t_Awaiting, z_i t_waits, z_i t_cells, z_i t_many]), (t_Astate, z_a G.2.1 36 t_state), (t_Awaiting, z_a G.2.1 36 t_waiting)] ∧ z_n rr ∧ True) := by
  unfold m_X2_stateOf at hm
  refine z_M.intro (by decide +kernel) (Nat.le_of_ble_eq_true rfl) (L := [(0, .ref t_o), (1, z_i x1)]) rfl (fun X C E => ?_)
  refine z_iload_n C dX2_stateOf_0 1 rfl ?_
  refine z_if_lt (tgt := 27) C h_x1 dX2_stateOf_1 (by decide) (fun c1 => ?_) (fun c1 => ?_)
  · have hm := z_pos c1 hm
    refine z_bipush C dX2_stateOf_27 (by decide) ?_
    cases hm
    exact z_iret C E dX2_stateOf_29 ⟨rfl, rfl, (z_k (-4) rfl), trivial⟩
  · have hm := z_neg c1 hm
    refine z_iload_n C dX2_stateOf_4 1 rfl ?_
    refine z_aload_n C dX2_stateOf_5 0 rfl ?_
    refine z_get C zf_X2_22 dX2_stateOf_6 0 rfl rfl ?_
    refine z_icmp_ge (tgt := 27) C h_x1 h_t_cells dX2_stateOf_9 (by decide) (fun c2 => ?_) (fun c2 => ?_)
    · have hm := z_pos c2 hm
      refine z_bipush C dX2_stateOf_27 (by decide) ?_
      cases hm
      exact z_iret C E dX2_stateOf_29 ⟨rfl, rfl, (z_k (-4) rfl), trivial⟩
    · have hm := z_neg c2 hm
      refine z_iload_n C dX2_stateOf_12 1 rfl ?_
      refine z_bipush C dX2_stateOf_13 (by decide) ?_
      refine z_icmp_ge (tgt := 27) C h_x1 (z_k 36 rfl) dX2_stateOf_15 (by decide) (fun c3 => ?_) (fun c3 => ?_)
      · have hm := z_pos c3 hm
        refine z_bipush C dX2_stateOf_27 (by decide) ?_
        cases hm
        exact z_iret C E dX2_stateOf_29 ⟨rfl, rfl, (z_k (-4) rfl), trivial⟩
      · have hm := z_neg c3 hm
        refine z_aload_n C dX2_stateOf_18 0 rfl ?_
        refine z_get C zf_X2_9 dX2_stateOf_19 0 rfl rfl ?_
        refine z_iload_n C dX2_stateOf_22 1 rfl ?_
        obtain ⟨c4, hm⟩ := z_chk_some hm
        refine z_iald C dX2_stateOf_23 1 rfl c4 h_x1 ?_
        refine z_goto (tgt := 29) C dX2_stateOf_24 (by decide) ?_
        cases hm
        exact z_iret C E dX2_stateOf_29 ⟨rfl, rfl, (h_t_state _), trivial⟩
set_option maxRecDepth 100000 in
theorem k_X2_sizeAt (l : Launch) (G : z_G) (N : Nat) (t_o t_Astate t_Awaiting : Nat) (t_state : (Int → Int)) (t_waiting : (Int → Int)) (t_waits : Int) (t_cells : Int) (t_many : Int) (x1 : Int) (h_t_state : z_r t_state) (h_t_waiting : z_r t_waiting) (h_t_waits : z_n t_waits) (h_t_cells : z_n t_cells) (h_t_many : z_n t_many) (h_x1 : z_n x1) (rr : Int) (hm : m_X2_sizeAt N t_state t_cells x1 = some (rr)) : z_M l G yX2_sizeAt cX2_sizeAt 5 (some .int) (k2_rm 1 21) [.ref t_o, z_i x1] ([(t_o, z_o 2 [.ref t_Astate, .ref t_Awaiting, z_i t_waits, z_i t_cells, z_i t_many]), (t_Astate, z_a G.2.1 36 t_state), (t_Awaiting, z_a G.2.1 36 t_waiting)]) 0 0 (fun v w => v = some (z_i rr) ∧ w = [(t_o, z_o 2 [.ref t_Astate, .ref t_Awaiting, z_i t_waits, z_i t_cells, z_i t_many]), (t_Astate, z_a G.2.1 36 t_state), (t_Awaiting, z_a G.2.1 36 t_waiting)] ∧ z_n rr ∧ True) := by
  unfold m_X2_sizeAt at hm
  refine z_M.intro (by decide +kernel) (Nat.le_of_ble_eq_true rfl) (L := [(0, .ref t_o), (1, z_i x1)]) rfl (fun X C E => ?_)
  refine z_aload_n C dX2_sizeAt_0 0 rfl ?_
  refine z_iload_n C dX2_sizeAt_1 1 rfl ?_
  obtain ⟨r1, k2, hm⟩ := z_b1s hm
  refine z_callVi C (k_X2_stateOf l G N t_o t_Astate t_Awaiting t_state t_waiting t_waits t_cells t_many x1 h_t_state h_t_waiting h_t_waits h_t_cells h_t_many h_x1 r1 k2) zv_X2_stateOf zl_X2_54 dX2_sizeAt_2 [0, 1, 2] rfl rfl rfl (ws' := [(t_o, z_o 2 [.ref t_Astate, .ref t_Awaiting, z_i t_waits, z_i t_cells, z_i t_many]), (t_Astate, z_a G.2.1 36 t_state), (t_Awaiting, z_a G.2.1 36 t_waiting)]) rfl 0 rfl rfl rfl [] rfl (Nat.le_of_ble_eq_true rfl) ⟨Nat.le_of_ble_eq_true rfl, Nat.le_of_ble_eq_true rfl⟩ ⟨rfl, rfl⟩ ⟨Nat.zero_le _, Nat.zero_le _⟩ (fun hF => ?_)
  obtain ⟨h_r1, -⟩ := hF
  refine z_istore_n C dX2_sizeAt_5 (by decide) (L' := [(2, z_i r1), (0, .ref t_o), (1, z_i x1)]) rfl ?_
  refine z_iconst C dX2_sizeAt_6 ?_
  refine z_istore_n C dX2_sizeAt_7 (by decide) (L' := [(3, z_i 0), (2, z_i r1), (0, .ref t_o), (1, z_i x1)]) rfl ?_
  refine z_iconst C dX2_sizeAt_8 ?_
  refine z_istore C dX2_sizeAt_9 (by decide) (L' := [(4, z_i 0), (3, z_i 0), (2, z_i r1), (0, .ref t_o), (1, z_i x1)]) rfl ?_
  obtain ⟨o3_1, hl, hm⟩ := z_b1s hm
  have JX1 : z_n o3_1 → z_J X 0 0 ([(t_o, z_o 2 [.ref t_Astate, .ref t_Awaiting, z_i t_waits, z_i t_cells, z_i t_many]), (t_Astate, z_a G.2.1 36 t_state), (t_Awaiting, z_a G.2.1 36 t_waiting)]) [(3, z_i o3_1)] 45 [] := by
    intro h_o3_1
    clear hl
    refine z_iload_n C dX2_sizeAt_45 0 rfl ?_
    cases hm
    exact z_iret C E dX2_sizeAt_46 ⟨rfl, rfl, h_o3_1, trivial⟩
  clear hm
  have L1 : ∀ (n1 : Nat) (v3_1 : Int) (v4_1 : Int), z_n v3_1 → z_n v4_1 → m_X2_sizeAt_l1 N t_cells r1 t_state n1 v3_1 v4_1 = some (o3_1) → z_J X 0 0 ([(t_o, z_o 2 [.ref t_Astate, .ref t_Awaiting, z_i t_waits, z_i t_cells, z_i t_many]), (t_Astate, z_a G.2.1 36 t_state), (t_Awaiting, z_a G.2.1 36 t_waiting)]) [(0, .ref t_o), (2, z_i r1), (3, z_i v3_1), (4, z_i v4_1)] 11 [] := by
    clear hl
    intro n1
    induction n1 with
    | zero =>
      intro v3_1 v4_1 h_v3_1 h_v4_1 hm
      rw [m_X2_sizeAt_l1] at hm
      cases hm
    | succ n1 ih1 =>
      intro v3_1 v4_1 h_v3_1 h_v4_1 hm
      rw [m_X2_sizeAt_l1] at hm
      refine z_iload C dX2_sizeAt_11 3 rfl ?_
      refine z_aload_n C dX2_sizeAt_13 0 rfl ?_
      refine z_get C zf_X2_22 dX2_sizeAt_14 0 rfl rfl ?_
      refine z_icmp_ge (tgt := 45) C h_v4_1 h_t_cells dX2_sizeAt_17 (by decide) (fun c3 => ?_) (fun c3 => ?_)
      · have hm := z_pos c3 hm
        refine z_sub (L' := [(3, z_i v3_1)]) [2] rfl ?_
        cases hm
        exact JX1 h_v3_1
      · have hm := z_neg c3 hm
        refine z_iload_n C dX2_sizeAt_20 1 rfl ?_
        refine z_bipush C dX2_sizeAt_21 (by decide) ?_
        refine z_icmp_eq (tgt := 45) C h_r1 (z_k (-4) rfl) dX2_sizeAt_23 (by decide) (fun c4 => ?_) (fun c4 => ?_)
        · have hm := z_pos c4 hm
          refine z_sub (L' := [(3, z_i v3_1)]) [2] rfl ?_
          cases hm
          exact JX1 h_v3_1
        · have hm := z_neg c4 hm
          refine z_aload_n C dX2_sizeAt_26 0 rfl ?_
          refine z_iload C dX2_sizeAt_27 3 rfl ?_
          obtain ⟨r5, k6, hm⟩ := z_b1s hm
          refine z_callVi C (k_X2_stateOf l G N t_o t_Astate t_Awaiting t_state t_waiting t_waits t_cells t_many v4_1 h_t_state h_t_waiting h_t_waits h_t_cells h_t_many h_v4_1 r5 k6) zv_X2_stateOf zl_X2_54 dX2_sizeAt_29 [0, 1, 2] rfl rfl rfl (ws' := [(t_o, z_o 2 [.ref t_Astate, .ref t_Awaiting, z_i t_waits, z_i t_cells, z_i t_many]), (t_Astate, z_a G.2.1 36 t_state), (t_Awaiting, z_a G.2.1 36 t_waiting)]) rfl 0 rfl rfl rfl [] rfl (Nat.le_of_ble_eq_true rfl) ⟨Nat.le_of_ble_eq_true rfl, Nat.le_of_ble_eq_true rfl⟩ ⟨rfl, rfl⟩ ⟨Nat.zero_le _, Nat.zero_le _⟩ (fun hF => ?_)
          obtain ⟨h_r5, -⟩ := hF
          refine z_iload_n C dX2_sizeAt_32 1 rfl ?_
          refine z_icmp_ne (tgt := 39) C h_r5 h_r1 dX2_sizeAt_33 (by decide) (fun c7 => ?_) (fun c7 => ?_)
          · have hm := z_pos c7 hm
            obtain ⟨c8, hm⟩ := z_chk_some hm
            refine z_iinc C dX2_sizeAt_39 3 rfl (by decide) (L' := [(4, z_i (v4_1 + 1)), (0, .ref t_o), (2, z_i r1), (3, z_i v3_1)]) rfl ?_
            refine z_goto (tgt := 11) C dX2_sizeAt_42 (by decide) ?_
            refine z_sub (L' := [(0, .ref t_o), (2, z_i r1), (3, z_i v3_1), (4, z_i (v4_1 + 1))]) [1, 2, 3, 0] rfl ?_
            exact ih1 v3_1 (v4_1 + 1) h_v3_1 c8 hm
          · have hm := z_neg c7 hm
            obtain ⟨c9, hm⟩ := z_chk_some hm
            refine z_iinc C dX2_sizeAt_36 2 rfl (by decide) (L' := [(3, z_i (v3_1 + 1)), (0, .ref t_o), (2, z_i r1), (4, z_i v4_1)]) rfl ?_
            obtain ⟨c10, hm⟩ := z_chk_some hm
            refine z_iinc C dX2_sizeAt_39 3 rfl (by decide) (L' := [(4, z_i (v4_1 + 1)), (3, z_i (v3_1 + 1)), (0, .ref t_o), (2, z_i r1)]) rfl ?_
            refine z_goto (tgt := 11) C dX2_sizeAt_42 (by decide) ?_
            refine z_sub (L' := [(0, .ref t_o), (2, z_i r1), (3, z_i (v3_1 + 1)), (4, z_i (v4_1 + 1))]) [2, 3, 1, 0] rfl ?_
            exact ih1 (v3_1 + 1) (v4_1 + 1) c9 c10 hm
  refine z_sub (L' := [(0, .ref t_o), (2, z_i r1), (3, z_i 0), (4, z_i 0)]) [3, 2, 1, 0] rfl ?_
  exact L1 N 0 0 (z_k 0 rfl) (z_k 0 rfl) hl
set_option maxRecDepth 100000 in
theorem k_X2_depthAt (l : Launch) (G : z_G) (N : Nat) (t_o t_Astate t_Awaiting w_o w_Aheight w_Adrops : Nat) (t_state : (Int → Int)) (t_waiting : (Int → Int)) (t_waits : Int) (t_cells : Int) (t_many : Int) (w_height : (Int → Int)) (w_drops : (Int → Int)) (w_hours : Int) (w_restless : Int64) (x1 : Int) (h_t_state : z_r t_state) (h_t_waiting : z_r t_waiting) (h_t_waits : z_n t_waits) (h_t_cells : z_n t_cells) (h_t_many : z_n t_many) (h_w_height : z_r w_height) (h_w_drops : z_r w_drops) (h_w_hours : z_n w_hours) (h_x1 : z_n x1) (rr : Int) (hm : m_X2_depthAt N t_state t_cells w_drops x1 = some (rr)) : z_M l G yX2_depthAt cX2_depthAt 6 (some .int) (k2_rm 1 21) [.ref t_o, z_i x1, .ref w_o] ([(t_o, z_o 2 [.ref t_Astate, .ref t_Awaiting, z_i t_waits, z_i t_cells, z_i t_many]), (t_Astate, z_a G.2.1 36 t_state), (t_Awaiting, z_a G.2.1 36 t_waiting), (w_o, z_o 4 [.ref w_Aheight, .ref w_Adrops, z_i w_hours, .long w_restless]), (w_Aheight, z_a G.2.1 36 w_height), (w_Adrops, z_a G.2.1 36 w_drops)]) 0 0 (fun v w => v = some (z_i rr) ∧ w = [(t_o, z_o 2 [.ref t_Astate, .ref t_Awaiting, z_i t_waits, z_i t_cells, z_i t_many]), (t_Astate, z_a G.2.1 36 t_state), (t_Awaiting, z_a G.2.1 36 t_waiting), (w_o, z_o 4 [.ref w_Aheight, .ref w_Adrops, z_i w_hours, .long w_restless]), (w_Aheight, z_a G.2.1 36 w_height), (w_Adrops, z_a G.2.1 36 w_drops)] ∧ z_n rr ∧ True) := by
  unfold m_X2_depthAt at hm
  refine z_M.intro (by decide +kernel) (Nat.le_of_ble_eq_true rfl) (L := [(0, .ref t_o), (1, z_i x1), (2, .ref w_o)]) rfl (fun X C E => ?_)
  refine z_aload_n C dX2_depthAt_0 0 rfl ?_
  refine z_iload_n C dX2_depthAt_1 1 rfl ?_
  obtain ⟨r1, k2, hm⟩ := z_b1s hm
  refine z_callVi C (k_X2_stateOf l G N t_o t_Astate t_Awaiting t_state t_waiting t_waits t_cells t_many x1 h_t_state h_t_waiting h_t_waits h_t_cells h_t_many h_x1 r1 k2) zv_X2_stateOf zl_X2_54 dX2_depthAt_2 [0, 1, 2] rfl rfl rfl (ws' := [(t_o, z_o 2 [.ref t_Astate, .ref t_Awaiting, z_i t_waits, z_i t_cells, z_i t_many]), (t_Astate, z_a G.2.1 36 t_state), (t_Awaiting, z_a G.2.1 36 t_waiting), (w_o, z_o 4 [.ref w_Aheight, .ref w_Adrops, z_i w_hours, .long w_restless]), (w_Aheight, z_a G.2.1 36 w_height), (w_Adrops, z_a G.2.1 36 w_drops)]) rfl 0 rfl rfl rfl [] rfl (Nat.le_of_ble_eq_true rfl) ⟨Nat.le_of_ble_eq_true rfl, Nat.le_of_ble_eq_true rfl⟩ ⟨rfl, rfl⟩ ⟨Nat.zero_le _, Nat.zero_le _⟩ (fun hF => ?_)
  obtain ⟨h_r1, -⟩ := hF
  refine z_istore_n C dX2_depthAt_5 (by decide) (L' := [(3, z_i r1), (0, .ref t_o), (1, z_i x1), (2, .ref w_o)]) rfl ?_
  refine z_iconst C dX2_depthAt_6 ?_
  refine z_istore C dX2_depthAt_7 (by decide) (L' := [(4, z_i 0), (3, z_i r1), (0, .ref t_o), (1, z_i x1), (2, .ref w_o)]) rfl ?_
  refine z_iconst C dX2_depthAt_9 ?_
  refine z_istore C dX2_depthAt_10 (by decide) (L' := [(5, z_i 0), (4, z_i 0), (3, z_i r1), (0, .ref t_o), (1, z_i x1), (2, .ref w_o)]) rfl ?_
  obtain ⟨o4_1, hl, hm⟩ := z_b1s hm
  have JX1 : z_n o4_1 → z_J X 0 0 ([(t_o, z_o 2 [.ref t_Astate, .ref t_Awaiting, z_i t_waits, z_i t_cells, z_i t_many]), (t_Astate, z_a G.2.1 36 t_state), (t_Awaiting, z_a G.2.1 36 t_waiting), (w_o, z_o 4 [.ref w_Aheight, .ref w_Adrops, z_i w_hours, .long w_restless]), (w_Aheight, z_a G.2.1 36 w_height), (w_Adrops, z_a G.2.1 36 w_drops)]) [(4, z_i o4_1)] 65 [] := by
    intro h_o4_1
    clear hl
    refine z_iload C dX2_depthAt_65 0 rfl ?_
    cases hm
    exact z_iret C E dX2_depthAt_67 ⟨rfl, rfl, h_o4_1, trivial⟩
  clear hm
  have L1 : ∀ (n1 : Nat) (v4_1 : Int) (v5_1 : Int), z_n v4_1 → z_n v5_1 → m_X2_depthAt_l1 N t_cells r1 t_state w_drops n1 v4_1 v5_1 = some (o4_1) → z_J X 0 0 ([(t_o, z_o 2 [.ref t_Astate, .ref t_Awaiting, z_i t_waits, z_i t_cells, z_i t_many]), (t_Astate, z_a G.2.1 36 t_state), (t_Awaiting, z_a G.2.1 36 t_waiting), (w_o, z_o 4 [.ref w_Aheight, .ref w_Adrops, z_i w_hours, .long w_restless]), (w_Aheight, z_a G.2.1 36 w_height), (w_Adrops, z_a G.2.1 36 w_drops)]) [(0, .ref t_o), (2, .ref w_o), (3, z_i r1), (4, z_i v4_1), (5, z_i v5_1)] 12 [] := by
    clear hl
    intro n1
    induction n1 with
    | zero =>
      intro v4_1 v5_1 h_v4_1 h_v5_1 hm
      rw [m_X2_depthAt_l1] at hm
      cases hm
    | succ n1 ih1 =>
      intro v4_1 v5_1 h_v4_1 h_v5_1 hm
      rw [m_X2_depthAt_l1] at hm
      refine z_iload C dX2_depthAt_12 4 rfl ?_
      refine z_aload_n C dX2_depthAt_14 0 rfl ?_
      refine z_get C zf_X2_22 dX2_depthAt_15 0 rfl rfl ?_
      refine z_icmp_ge (tgt := 65) C h_v5_1 h_t_cells dX2_depthAt_18 (by decide) (fun c3 => ?_) (fun c3 => ?_)
      · have hm := z_pos c3 hm
        refine z_sub (L' := [(4, z_i v4_1)]) [3] rfl ?_
        cases hm
        exact JX1 h_v4_1
      · have hm := z_neg c3 hm
        refine z_iload C dX2_depthAt_21 4 rfl ?_
        refine z_bipush C dX2_depthAt_23 (by decide) ?_
        refine z_icmp_ge (tgt := 65) C h_v5_1 (z_k 36 rfl) dX2_depthAt_25 (by decide) (fun c4 => ?_) (fun c4 => ?_)
        · have hm := z_pos c4 hm
          refine z_sub (L' := [(4, z_i v4_1)]) [3] rfl ?_
          cases hm
          exact JX1 h_v4_1
        · have hm := z_neg c4 hm
          refine z_iload_n C dX2_depthAt_28 2 rfl ?_
          refine z_bipush C dX2_depthAt_29 (by decide) ?_
          refine z_icmp_eq (tgt := 65) C h_r1 (z_k (-4) rfl) dX2_depthAt_31 (by decide) (fun c5 => ?_) (fun c5 => ?_)
          · have hm := z_pos c5 hm
            refine z_sub (L' := [(4, z_i v4_1)]) [3] rfl ?_
            cases hm
            exact JX1 h_v4_1
          · have hm := z_neg c5 hm
            refine z_aload_n C dX2_depthAt_34 0 rfl ?_
            refine z_get C zf_X2_9 dX2_depthAt_35 0 rfl rfl ?_
            refine z_iload C dX2_depthAt_38 4 rfl ?_
            obtain ⟨c6, hm⟩ := z_chk_some hm
            refine z_iald C dX2_depthAt_40 1 rfl c6 h_v5_1 ?_
            refine z_iload_n C dX2_depthAt_41 2 rfl ?_
            refine z_icmp_ne (tgt := 59) C (h_t_state _) h_r1 dX2_depthAt_42 (by decide) (fun c7 => ?_) (fun c7 => ?_)
            · have hm := z_pos c7 hm
              obtain ⟨c8, hm⟩ := z_chk_some hm
              refine z_iinc C dX2_depthAt_59 4 rfl (by decide) (L' := [(5, z_i (v5_1 + 1)), (0, .ref t_o), (2, .ref w_o), (3, z_i r1), (4, z_i v4_1)]) rfl ?_
              refine z_goto (tgt := 12) C dX2_depthAt_62 (by decide) ?_
              refine z_sub (L' := [(0, .ref t_o), (2, .ref w_o), (3, z_i r1), (4, z_i v4_1), (5, z_i (v5_1 + 1))]) [1, 2, 3, 4, 0] rfl ?_
              exact ih1 v4_1 (v5_1 + 1) h_v4_1 c8 hm
            · have hm := z_neg c7 hm
              refine z_iload C dX2_depthAt_45 3 rfl ?_
              refine z_aload_n C dX2_depthAt_47 1 rfl ?_
              refine z_get C zf_X2_37 dX2_depthAt_48 3 rfl rfl ?_
              refine z_iload C dX2_depthAt_51 4 rfl ?_
              obtain ⟨c9, hm⟩ := z_chk_some hm
              refine z_iald C dX2_depthAt_53 5 rfl c9 h_v5_1 ?_
              refine z_mmax C h_v4_1 (h_w_drops _) zl_X2_58 dX2_depthAt_54 ⟨Nat.le_of_ble_eq_true rfl, Nat.le_of_ble_eq_true rfl⟩ ⟨Nat.zero_le _, Nat.zero_le _⟩ ?_
              refine z_istore C dX2_depthAt_57 (by decide) (L' := [(4, z_i (z_max v4_1 (w_drops v5_1))), (0, .ref t_o), (2, .ref w_o), (3, z_i r1), (5, z_i v5_1)]) rfl ?_
              obtain ⟨c10, hm⟩ := z_chk_some hm
              refine z_iinc C dX2_depthAt_59 4 rfl (by decide) (L' := [(5, z_i (v5_1 + 1)), (4, z_i (z_max v4_1 (w_drops v5_1))), (0, .ref t_o), (2, .ref w_o), (3, z_i r1)]) rfl ?_
              refine z_goto (tgt := 12) C dX2_depthAt_62 (by decide) ?_
              refine z_sub (L' := [(0, .ref t_o), (2, .ref w_o), (3, z_i r1), (4, z_i (z_max v4_1 (w_drops v5_1))), (5, z_i (v5_1 + 1))]) [2, 3, 4, 1, 0] rfl ?_
              exact ih1 (z_max v4_1 (w_drops v5_1)) (v5_1 + 1) (z_n_max h_v4_1 (h_w_drops _)) c10 hm
  refine z_sub (L' := [(0, .ref t_o), (2, .ref w_o), (3, z_i r1), (4, z_i 0), (5, z_i 0)]) [3, 5, 2, 1, 0] rfl ?_
  exact L1 N 0 0 (z_k 0 rfl) (z_k 0 rfl) hl
