set_option maxRecDepth 100000 in
theorem k_X5_rains (l : Launch) (G : z_G) (N : Nat) (m_o tx_o gr_o nw_o og_o la_o ss_o un_o kp_o m_AringCell m_AringDrops gr_Akind gr_Abeside gr_AbesideBits nw_Aheight nw_Adrops la_Aheight la_Adrops : Nat) (m_ringCell : (Int → Int)) (m_ringDrops : (Int → Int)) (m_rings : Int) (gr_rows : Int) (gr_columns : Int) (gr_cells : Int) (gr_kind : (Int → Int)) (gr_beside : (Int → Int)) (gr_besideBits : (Int → Int64)) (nw_height : (Int → Int)) (nw_drops : (Int → Int)) (nw_hours : Int) (nw_restless : Int64) (la_height : (Int → Int)) (la_drops : (Int → Int)) (la_hours : Int) (la_restless : Int64) (h_m_ringCell : z_r m_ringCell) (h_m_ringDrops : z_r m_ringDrops) (h_m_rings : z_n m_rings) (h_gr_rows : z_n gr_rows) (h_gr_columns : z_n gr_columns) (h_gr_cells : z_n gr_cells) (h_gr_kind : z_r gr_kind) (h_gr_beside : z_r gr_beside) (h_nw_height : z_r nw_height) (h_nw_drops : z_r nw_drops) (h_nw_hours : z_n nw_hours) (h_la_height : z_r la_height) (h_la_drops : z_r la_drops) (h_la_hours : z_n la_hours) (rr : Int) (q_la_height : (Int → Int)) (q_la_drops : (Int → Int)) (q_la_hours : Int) (q_la_restless : Int64) (hm : m_X5_rains N m_ringCell m_ringDrops m_rings gr_cells gr_kind gr_beside gr_besideBits nw_height nw_drops nw_hours la_height la_drops la_hours la_restless = some (rr, q_la_height, q_la_drops, q_la_hours, q_la_restless)) : z_M l G yX5_rains cX5_rains 3 (some .int) (k2_rm 6 133) [.ref m_o] ([(m_o, z_o 5 [.ref tx_o, .ref gr_o, .ref nw_o, .ref og_o, .ref la_o, .ref ss_o, .ref un_o, .ref kp_o, .ref m_AringCell, .ref m_AringDrops, z_i m_rings]), (m_AringCell, z_a G.2.1 6 m_ringCell), (m_AringDrops, z_a G.2.1 6 m_ringDrops), (gr_o, z_o 0 [z_i gr_rows, z_i gr_columns, z_i gr_cells, .ref gr_Akind, .ref gr_Abeside, .ref gr_AbesideBits]), (gr_Akind, z_a G.2.1 36 gr_kind), (gr_Abeside, z_a G.2.1 144 gr_beside), (gr_AbesideBits, z_l G.2.2.1 36 gr_besideBits), (nw_o, z_o 4 [.ref nw_Aheight, .ref nw_Adrops, z_i nw_hours, .long nw_restless]), (nw_Aheight, z_a G.2.1 36 nw_height), (nw_Adrops, z_a G.2.1 36 nw_drops), (la_o, z_o 4 [.ref la_Aheight, .ref la_Adrops, z_i la_hours, .long la_restless]), (la_Aheight, z_a G.2.1 36 la_height), (la_Adrops, z_a G.2.1 36 la_drops)]) 0 0 (fun v w => v = some (z_i rr) ∧ w = [(m_o, z_o 5 [.ref tx_o, .ref gr_o, .ref nw_o, .ref og_o, .ref la_o, .ref ss_o, .ref un_o, .ref kp_o, .ref m_AringCell, .ref m_AringDrops, z_i m_rings]), (m_AringCell, z_a G.2.1 6 m_ringCell), (m_AringDrops, z_a G.2.1 6 m_ringDrops), (gr_o, z_o 0 [z_i gr_rows, z_i gr_columns, z_i gr_cells, .ref gr_Akind, .ref gr_Abeside, .ref gr_AbesideBits]), (gr_Akind, z_a G.2.1 36 gr_kind), (gr_Abeside, z_a G.2.1 144 gr_beside), (gr_AbesideBits, z_l G.2.2.1 36 gr_besideBits), (nw_o, z_o 4 [.ref nw_Aheight, .ref nw_Adrops, z_i nw_hours, .long nw_restless]), (nw_Aheight, z_a G.2.1 36 nw_height), (nw_Adrops, z_a G.2.1 36 nw_drops), (la_o, z_o 4 [.ref la_Aheight, .ref la_Adrops, z_i q_la_hours, .long q_la_restless]), (la_Aheight, z_a G.2.1 36 q_la_height), (la_Adrops, z_a G.2.1 36 q_la_drops)] ∧ z_n rr ∧ z_r q_la_height ∧ z_r q_la_drops ∧ z_n q_la_hours ∧ True) := by
  unfold m_X5_rains at hm
  refine z_M.intro (by decide +kernel) (Nat.le_of_ble_eq_true rfl) (L := [(0, .ref m_o)]) rfl (fun X C E => ?_)
  refine z_aload_n C dX5_rains_0 0 rfl ?_
  refine z_get C zf_X5_60 dX5_rains_1 0 rfl rfl ?_
  refine z_if_ne (tgt := 10) C h_m_rings dX5_rains_4 (by decide) (fun c1 => ?_) (fun c1 => ?_)
  · have hm := z_pos c1 hm
    refine z_iconst C dX5_rains_10 ?_
    refine z_istore_n C dX5_rains_11 (by decide) (L' := [(1, z_i 0), (0, .ref m_o)]) rfl ?_
    refine z_iconst C dX5_rains_12 ?_
    refine z_istore_n C dX5_rains_13 (by decide) (L' := [(2, z_i 0), (1, z_i 0), (0, .ref m_o)]) rfl ?_
    obtain ⟨o1_1, o_la_height_1, o_la_drops_1, o_la_hours_1, o_la_restless_1, hl, hm⟩ := z_b5s hm
    have JX1 : z_n o1_1 → z_r o_la_height_1 → z_r o_la_drops_1 → z_n o_la_hours_1 → z_J X 0 0 ([(m_o, z_o 5 [.ref tx_o, .ref gr_o, .ref nw_o, .ref og_o, .ref la_o, .ref ss_o, .ref un_o, .ref kp_o, .ref m_AringCell, .ref m_AringDrops, z_i m_rings]), (m_AringCell, z_a G.2.1 6 m_ringCell), (m_AringDrops, z_a G.2.1 6 m_ringDrops), (gr_o, z_o 0 [z_i gr_rows, z_i gr_columns, z_i gr_cells, .ref gr_Akind, .ref gr_Abeside, .ref gr_AbesideBits]), (gr_Akind, z_a G.2.1 36 gr_kind), (gr_Abeside, z_a G.2.1 144 gr_beside), (gr_AbesideBits, z_l G.2.2.1 36 gr_besideBits), (nw_o, z_o 4 [.ref nw_Aheight, .ref nw_Adrops, z_i nw_hours, .long nw_restless]), (nw_Aheight, z_a G.2.1 36 nw_height), (nw_Adrops, z_a G.2.1 36 nw_drops), (la_o, z_o 4 [.ref la_Aheight, .ref la_Adrops, z_i o_la_hours_1, .long o_la_restless_1]), (la_Aheight, z_a G.2.1 36 o_la_height_1), (la_Adrops, z_a G.2.1 36 o_la_drops_1)]) [(1, z_i o1_1)] 62 [] := by
      intro h_o1_1 h_o_la_height_1 h_o_la_drops_1 h_o_la_hours_1
      clear hl
      refine z_iload_n C dX5_rains_62 0 rfl ?_
      cases hm
      exact z_iret C E dX5_rains_63 ⟨rfl, rfl, h_o1_1, h_o_la_height_1, h_o_la_drops_1, h_o_la_hours_1, trivial⟩
    clear hm
    have L1 : ∀ (n1 : Nat) (v1_1 : Int) (v2_1 : Int) (la_height_1 : (Int → Int)) (la_drops_1 : (Int → Int)) (la_hours_1 : Int) (la_restless_1 : Int64), z_n v1_1 → z_n v2_1 → z_r la_height_1 → z_r la_drops_1 → z_n la_hours_1 → m_X5_rains_l1 N nw_height nw_drops nw_hours gr_cells gr_kind gr_beside gr_besideBits m_ringCell m_ringDrops m_rings n1 v1_1 v2_1 la_height_1 la_drops_1 la_hours_1 la_restless_1 = some (o1_1, o_la_height_1, o_la_drops_1, o_la_hours_1, o_la_restless_1) → z_J X 0 0 ([(m_o, z_o 5 [.ref tx_o, .ref gr_o, .ref nw_o, .ref og_o, .ref la_o, .ref ss_o, .ref un_o, .ref kp_o, .ref m_AringCell, .ref m_AringDrops, z_i m_rings]), (m_AringCell, z_a G.2.1 6 m_ringCell), (m_AringDrops, z_a G.2.1 6 m_ringDrops), (gr_o, z_o 0 [z_i gr_rows, z_i gr_columns, z_i gr_cells, .ref gr_Akind, .ref gr_Abeside, .ref gr_AbesideBits]), (gr_Akind, z_a G.2.1 36 gr_kind), (gr_Abeside, z_a G.2.1 144 gr_beside), (gr_AbesideBits, z_l G.2.2.1 36 gr_besideBits), (nw_o, z_o 4 [.ref nw_Aheight, .ref nw_Adrops, z_i nw_hours, .long nw_restless]), (nw_Aheight, z_a G.2.1 36 nw_height), (nw_Adrops, z_a G.2.1 36 nw_drops), (la_o, z_o 4 [.ref la_Aheight, .ref la_Adrops, z_i la_hours_1, .long la_restless_1]), (la_Aheight, z_a G.2.1 36 la_height_1), (la_Adrops, z_a G.2.1 36 la_drops_1)]) [(0, .ref m_o), (1, z_i v1_1), (2, z_i v2_1)] 14 [] := by
      clear hl
      intro n1
      induction n1 with
      | zero =>
        intro v1_1 v2_1 la_height_1 la_drops_1 la_hours_1 la_restless_1 h_v1_1 h_v2_1 h_la_height_1 h_la_drops_1 h_la_hours_1 hm
        rw [m_X5_rains_l1] at hm
        cases hm
      | succ n1 ih1 =>
        intro v1_1 v2_1 la_height_1 la_drops_1 la_hours_1 la_restless_1 h_v1_1 h_v2_1 h_la_height_1 h_la_drops_1 h_la_hours_1 hm
        rw [m_X5_rains_l1] at hm
        refine z_iload_n C dX5_rains_14 2 rfl ?_
        refine z_bipush C dX5_rains_15 (by decide) ?_
        refine z_icmp_gt (tgt := 62) C h_v2_1 (z_k 30 rfl) dX5_rains_17 (by decide) (fun c2 => ?_) (fun c2 => ?_)
        · have hm := z_pos c2 hm
          refine z_sub (L' := [(1, z_i v1_1)]) [1] rfl ?_
          cases hm
          exact JX1 h_v1_1 h_la_height_1 h_la_drops_1 h_la_hours_1
        · have hm := z_neg c2 hm
          refine z_aload_n C dX5_rains_20 0 rfl ?_
          refine z_get C zf_X5_33 dX5_rains_21 0 rfl rfl ?_
          refine z_aload_n C dX5_rains_24 0 rfl ?_
          refine z_get C zf_X5_26 dX5_rains_25 0 rfl rfl ?_
          obtain ⟨la_height_3, la_drops_4, la_hours_5, k6, hm⟩ := z_b3s hm
          refine z_callVv C (k_X4_copyFrom l G N la_o la_Aheight la_Adrops nw_o nw_Aheight nw_Adrops la_height_1 la_drops_1 la_hours_1 la_restless_1 nw_height nw_drops nw_hours nw_restless h_la_height_1 h_la_drops_1 h_la_hours_1 h_nw_height h_nw_drops h_nw_hours la_height_3 la_drops_4 la_hours_5 k6) zv_X4_copyFrom zl_X5_162 dX5_rains_28 [10, 11, 12, 7, 8, 9] rfl rfl rfl (ws' := [(m_o, z_o 5 [.ref tx_o, .ref gr_o, .ref nw_o, .ref og_o, .ref la_o, .ref ss_o, .ref un_o, .ref kp_o, .ref m_AringCell, .ref m_AringDrops, z_i m_rings]), (m_AringCell, z_a G.2.1 6 m_ringCell), (m_AringDrops, z_a G.2.1 6 m_ringDrops), (gr_o, z_o 0 [z_i gr_rows, z_i gr_columns, z_i gr_cells, .ref gr_Akind, .ref gr_Abeside, .ref gr_AbesideBits]), (gr_Akind, z_a G.2.1 36 gr_kind), (gr_Abeside, z_a G.2.1 144 gr_beside), (gr_AbesideBits, z_l G.2.2.1 36 gr_besideBits), (nw_o, z_o 4 [.ref nw_Aheight, .ref nw_Adrops, z_i nw_hours, .long nw_restless]), (nw_Aheight, z_a G.2.1 36 nw_height), (nw_Adrops, z_a G.2.1 36 nw_drops), (la_o, z_o 4 [.ref la_Aheight, .ref la_Adrops, z_i la_hours_5, .long la_restless_1]), (la_Aheight, z_a G.2.1 36 la_height_3), (la_Adrops, z_a G.2.1 36 la_drops_4)]) rfl 10 rfl rfl rfl [] rfl (Nat.le_of_ble_eq_true rfl) ⟨Nat.le_of_ble_eq_true rfl, Nat.le_of_ble_eq_true rfl⟩ ⟨rfl, rfl⟩ ⟨Nat.zero_le _, Nat.zero_le _⟩ (fun hF => ?_)
          obtain ⟨h_la_height_3, h_la_drops_4, h_la_hours_5, -⟩ := hF
          refine z_aload_n C dX5_rains_31 0 rfl ?_
          refine z_get C zf_X5_33 dX5_rains_32 0 rfl rfl ?_
          refine z_aload_n C dX5_rains_35 0 rfl ?_
          refine z_get C zf_X5_19 dX5_rains_36 0 rfl rfl ?_
          refine z_iload_n C dX5_rains_39 2 rfl ?_
          obtain ⟨la_drops_7, la_restless_8, k9, hm⟩ := z_b2s hm
          refine z_callVv C (k_X4_pour l G N la_o la_Aheight la_Adrops gr_o gr_Akind gr_Abeside gr_AbesideBits la_height_3 la_drops_4 la_hours_5 la_restless_1 gr_rows gr_columns gr_cells gr_kind gr_beside gr_besideBits v2_1 h_la_height_3 h_la_drops_4 h_la_hours_5 h_gr_rows h_gr_columns h_gr_cells h_gr_kind h_gr_beside h_v2_1 la_drops_7 la_restless_8 k9) zv_X4_pour zl_X5_132 dX5_rains_40 [10, 11, 12, 3, 4, 5, 6] rfl rfl rfl (ws' := [(m_o, z_o 5 [.ref tx_o, .ref gr_o, .ref nw_o, .ref og_o, .ref la_o, .ref ss_o, .ref un_o, .ref kp_o, .ref m_AringCell, .ref m_AringDrops, z_i m_rings]), (m_AringCell, z_a G.2.1 6 m_ringCell), (m_AringDrops, z_a G.2.1 6 m_ringDrops), (gr_o, z_o 0 [z_i gr_rows, z_i gr_columns, z_i gr_cells, .ref gr_Akind, .ref gr_Abeside, .ref gr_AbesideBits]), (gr_Akind, z_a G.2.1 36 gr_kind), (gr_Abeside, z_a G.2.1 144 gr_beside), (gr_AbesideBits, z_l G.2.2.1 36 gr_besideBits), (nw_o, z_o 4 [.ref nw_Aheight, .ref nw_Adrops, z_i nw_hours, .long nw_restless]), (nw_Aheight, z_a G.2.1 36 nw_height), (nw_Adrops, z_a G.2.1 36 nw_drops), (la_o, z_o 4 [.ref la_Aheight, .ref la_Adrops, z_i la_hours_5, .long la_restless_8]), (la_Aheight, z_a G.2.1 36 la_height_3), (la_Adrops, z_a G.2.1 36 la_drops_7)]) rfl 10 rfl rfl rfl [] rfl (Nat.le_of_ble_eq_true rfl) ⟨Nat.le_of_ble_eq_true rfl, Nat.le_of_ble_eq_true rfl⟩ ⟨rfl, rfl⟩ ⟨Nat.zero_le _, Nat.zero_le _⟩ (fun hF => ?_)
          obtain ⟨h_la_drops_7, -⟩ := hF
          refine z_aload_n C dX5_rains_43 0 rfl ?_
          obtain ⟨r10, k11, hm⟩ := z_b1s hm
          refine z_callVi C (k_X5_ringsHold l G N m_o tx_o gr_o nw_o og_o la_o ss_o un_o kp_o m_AringCell m_AringDrops gr_Akind gr_Abeside gr_AbesideBits la_Aheight la_Adrops m_ringCell m_ringDrops m_rings gr_rows gr_columns gr_cells gr_kind gr_beside gr_besideBits la_height_3 la_drops_7 la_hours_5 la_restless_8 h_m_ringCell h_m_ringDrops h_m_rings h_gr_rows h_gr_columns h_gr_cells h_gr_kind h_gr_beside h_la_height_3 h_la_drops_7 h_la_hours_5 r10 k11) zv_X5_ringsHold zl_X5_200 dX5_rains_44 [0, 1, 2, 3, 4, 5, 6, 10, 11, 12] rfl rfl rfl (ws' := [(m_o, z_o 5 [.ref tx_o, .ref gr_o, .ref nw_o, .ref og_o, .ref la_o, .ref ss_o, .ref un_o, .ref kp_o, .ref m_AringCell, .ref m_AringDrops, z_i m_rings]), (m_AringCell, z_a G.2.1 6 m_ringCell), (m_AringDrops, z_a G.2.1 6 m_ringDrops), (gr_o, z_o 0 [z_i gr_rows, z_i gr_columns, z_i gr_cells, .ref gr_Akind, .ref gr_Abeside, .ref gr_AbesideBits]), (gr_Akind, z_a G.2.1 36 gr_kind), (gr_Abeside, z_a G.2.1 144 gr_beside), (gr_AbesideBits, z_l G.2.2.1 36 gr_besideBits), (nw_o, z_o 4 [.ref nw_Aheight, .ref nw_Adrops, z_i nw_hours, .long nw_restless]), (nw_Aheight, z_a G.2.1 36 nw_height), (nw_Adrops, z_a G.2.1 36 nw_drops), (la_o, z_o 4 [.ref la_Aheight, .ref la_Adrops, z_i la_hours_5, .long la_restless_8]), (la_Aheight, z_a G.2.1 36 la_height_3), (la_Adrops, z_a G.2.1 36 la_drops_7)]) rfl 0 rfl rfl rfl [] rfl (Nat.le_of_ble_eq_true rfl) ⟨Nat.le_of_ble_eq_true rfl, Nat.le_of_ble_eq_true rfl⟩ ⟨rfl, rfl⟩ ⟨Nat.zero_le _, Nat.zero_le _⟩ (fun hF => ?_)
          obtain ⟨hb_r10, -⟩ := hF
          refine z_if_eq (tgt := 56) C (z_n01 hb_r10) dX5_rains_47 (by decide) (fun c12 => ?_) (fun c12 => ?_)
          · have hm := z_pos c12 hm
            obtain ⟨c13, hm⟩ := z_chk_some hm
            refine z_iinc C dX5_rains_56 2 rfl (by decide) (L' := [(2, z_i (v2_1 + 1)), (0, .ref m_o), (1, z_i v1_1)]) rfl ?_
            refine z_goto (tgt := 14) C dX5_rains_59 (by decide) ?_
            refine z_sub (L' := [(0, .ref m_o), (1, z_i v1_1), (2, z_i (v2_1 + 1))]) [1, 2, 0] rfl ?_
            exact ih1 v1_1 (v2_1 + 1) la_height_3 la_drops_7 la_hours_5 la_restless_8 h_v1_1 c13 h_la_height_3 h_la_drops_7 h_la_hours_5 hm
          · have hm := z_neg c12 hm
            refine z_iload_n C dX5_rains_50 1 rfl ?_
            refine z_iconst C dX5_rains_51 ?_
            refine z_iload_n C dX5_rains_52 2 rfl ?_
            refine z_ishl C dX5_rains_53 ?_
            refine z_ior C dX5_rains_54 ?_
            refine z_istore_n C dX5_rains_55 (by decide) (L' := [(1, z_i (z_or v1_1 (z_shl 1 v2_1))), (0, .ref m_o), (2, z_i v2_1)]) rfl ?_
            obtain ⟨c14, hm⟩ := z_chk_some hm
            refine z_iinc C dX5_rains_56 2 rfl (by decide) (L' := [(2, z_i (v2_1 + 1)), (1, z_i (z_or v1_1 (z_shl 1 v2_1))), (0, .ref m_o)]) rfl ?_
            refine z_goto (tgt := 14) C dX5_rains_59 (by decide) ?_
            refine z_sub (L' := [(0, .ref m_o), (1, z_i (z_or v1_1 (z_shl 1 v2_1))), (2, z_i (v2_1 + 1))]) [2, 1, 0] rfl ?_
            exact ih1 (z_or v1_1 (z_shl 1 v2_1)) (v2_1 + 1) la_height_3 la_drops_7 la_hours_5 la_restless_8 (z_n_or _ _) c14 h_la_height_3 h_la_drops_7 h_la_hours_5 hm
    refine z_sub (L' := [(0, .ref m_o), (1, z_i 0), (2, z_i 0)]) [2, 1, 0] rfl ?_
    exact L1 N 0 0 la_height la_drops la_hours la_restless (z_k 0 rfl) (z_k 0 rfl) h_la_height h_la_drops h_la_hours hl
  · have hm := z_neg c1 hm
    refine z_ldc C zc_X5_199 dX5_rains_7 ?_
    cases hm
    exact z_iret C E dX5_rains_9 ⟨rfl, rfl, (z_k 2147483647 rfl), h_la_height, h_la_drops, h_la_hours, trivial⟩
set_option maxRecDepth 100000 in
theorem k_X4_wetCells (l : Launch) (G : z_G) (N : Nat) (t_o t_Aheight t_Adrops g_o g_Akind g_Abeside g_AbesideBits : Nat) (t_height : (Int → Int)) (t_drops : (Int → Int)) (t_hours : Int) (t_restless : Int64) (g_rows : Int) (g_columns : Int) (g_cells : Int) (g_kind : (Int → Int)) (g_beside : (Int → Int)) (g_besideBits : (Int → Int64)) (h_t_height : z_r t_height) (h_t_drops : z_r t_drops) (h_t_hours : z_n t_hours) (h_g_rows : z_n g_rows) (h_g_columns : z_n g_columns) (h_g_cells : z_n g_cells) (h_g_kind : z_r g_kind) (h_g_beside : z_r g_beside) (rr : Int) (hm : m_X4_wetCells N t_drops g_cells = some (rr)) : z_M l G yX4_wetCells cX4_wetCells 4 (some .int) (k2_rm 0 0) [.ref t_o, .ref g_o] ([(t_o, z_o 4 [.ref t_Aheight, .ref t_Adrops, z_i t_hours, .long t_restless]), (t_Aheight, z_a G.2.1 36 t_height), (t_Adrops, z_a G.2.1 36 t_drops), (g_o, z_o 0 [z_i g_rows, z_i g_columns, z_i g_cells, .ref g_Akind, .ref g_Abeside, .ref g_AbesideBits]), (g_Akind, z_a G.2.1 36 g_kind), (g_Abeside, z_a G.2.1 144 g_beside), (g_AbesideBits, z_l G.2.2.1 36 g_besideBits)]) 0 0 (fun v w => v = some (z_i rr) ∧ w = [(t_o, z_o 4 [.ref t_Aheight, .ref t_Adrops, z_i t_hours, .long t_restless]), (t_Aheight, z_a G.2.1 36 t_height), (t_Adrops, z_a G.2.1 36 t_drops), (g_o, z_o 0 [z_i g_rows, z_i g_columns, z_i g_cells, .ref g_Akind, .ref g_Abeside, .ref g_AbesideBits]), (g_Akind, z_a G.2.1 36 g_kind), (g_Abeside, z_a G.2.1 144 g_beside), (g_AbesideBits, z_l G.2.2.1 36 g_besideBits)] ∧ z_n rr ∧ True) := by
  unfold m_X4_wetCells at hm
  refine z_M.intro (by decide +kernel) (Nat.le_of_ble_eq_true rfl) (L := [(0, .ref t_o), (1, .ref g_o)]) rfl (fun X C E => ?_)
  refine z_iconst C dX4_wetCells_0 ?_
  refine z_istore_n C dX4_wetCells_1 (by decide) (L' := [(2, z_i 0), (0, .ref t_o), (1, .ref g_o)]) rfl ?_
  refine z_iconst C dX4_wetCells_2 ?_
  refine z_istore_n C dX4_wetCells_3 (by decide) (L' := [(3, z_i 0), (2, z_i 0), (0, .ref t_o), (1, .ref g_o)]) rfl ?_
  obtain ⟨o2_1, hl, hm⟩ := z_b1s hm
  have JX1 : z_n o2_1 → z_J X 0 0 ([(t_o, z_o 4 [.ref t_Aheight, .ref t_Adrops, z_i t_hours, .long t_restless]), (t_Aheight, z_a G.2.1 36 t_height), (t_Adrops, z_a G.2.1 36 t_drops), (g_o, z_o 0 [z_i g_rows, z_i g_columns, z_i g_cells, .ref g_Akind, .ref g_Abeside, .ref g_AbesideBits]), (g_Akind, z_a G.2.1 36 g_kind), (g_Abeside, z_a G.2.1 144 g_beside), (g_AbesideBits, z_l G.2.2.1 36 g_besideBits)]) [(2, z_i o2_1)] 36 [] := by
    intro h_o2_1
    clear hl
    refine z_iload_n C dX4_wetCells_36 0 rfl ?_
    cases hm
    exact z_iret C E dX4_wetCells_37 ⟨rfl, rfl, h_o2_1, trivial⟩
  clear hm
  have L1 : ∀ (n1 : Nat) (v2_1 : Int) (v3_1 : Int), z_n v2_1 → z_n v3_1 → m_X4_wetCells_l1 N g_cells t_drops n1 v2_1 v3_1 = some (o2_1) → z_J X 0 0 ([(t_o, z_o 4 [.ref t_Aheight, .ref t_Adrops, z_i t_hours, .long t_restless]), (t_Aheight, z_a G.2.1 36 t_height), (t_Adrops, z_a G.2.1 36 t_drops), (g_o, z_o 0 [z_i g_rows, z_i g_columns, z_i g_cells, .ref g_Akind, .ref g_Abeside, .ref g_AbesideBits]), (g_Akind, z_a G.2.1 36 g_kind), (g_Abeside, z_a G.2.1 144 g_beside), (g_AbesideBits, z_l G.2.2.1 36 g_besideBits)]) [(0, .ref t_o), (1, .ref g_o), (2, z_i v2_1), (3, z_i v3_1)] 4 [] := by
    clear hl
    intro n1
    induction n1 with
    | zero =>
      intro v2_1 v3_1 h_v2_1 h_v3_1 hm
      rw [m_X4_wetCells_l1] at hm
      cases hm
    | succ n1 ih1 =>
      intro v2_1 v3_1 h_v2_1 h_v3_1 hm
      rw [m_X4_wetCells_l1] at hm
      refine z_iload_n C dX4_wetCells_4 3 rfl ?_
      refine z_aload_n C dX4_wetCells_5 1 rfl ?_
      refine z_get C zf_X4_38 dX4_wetCells_6 3 rfl rfl ?_
      refine z_icmp_ge (tgt := 36) C h_v3_1 h_g_cells dX4_wetCells_9 (by decide) (fun c1 => ?_) (fun c1 => ?_)
      · have hm := z_pos c1 hm
        refine z_sub (L' := [(2, z_i v2_1)]) [2] rfl ?_
        cases hm
        exact JX1 h_v2_1
      · have hm := z_neg c1 hm
        refine z_iload_n C dX4_wetCells_12 3 rfl ?_
        refine z_bipush C dX4_wetCells_13 (by decide) ?_
        refine z_icmp_ge (tgt := 36) C h_v3_1 (z_k 36 rfl) dX4_wetCells_15 (by decide) (fun c2 => ?_) (fun c2 => ?_)
        · have hm := z_pos c2 hm
          refine z_sub (L' := [(2, z_i v2_1)]) [2] rfl ?_
          cases hm
          exact JX1 h_v2_1
        · have hm := z_neg c2 hm
          refine z_aload_n C dX4_wetCells_18 0 rfl ?_
          refine z_get C zf_X4_15 dX4_wetCells_19 0 rfl rfl ?_
          refine z_iload_n C dX4_wetCells_22 3 rfl ?_
          obtain ⟨c3, hm⟩ := z_chk_some hm
          refine z_iald C dX4_wetCells_23 2 rfl c3 h_v3_1 ?_
          refine z_if_le (tgt := 30) C (h_t_drops _) dX4_wetCells_24 (by decide) (fun c4 => ?_) (fun c4 => ?_)
          · have hm := z_pos c4 hm
            obtain ⟨c5, hm⟩ := z_chk_some hm
            refine z_iinc C dX4_wetCells_30 3 rfl (by decide) (L' := [(3, z_i (v3_1 + 1)), (0, .ref t_o), (1, .ref g_o), (2, z_i v2_1)]) rfl ?_
            refine z_goto (tgt := 4) C dX4_wetCells_33 (by decide) ?_
            refine z_sub (L' := [(0, .ref t_o), (1, .ref g_o), (2, z_i v2_1), (3, z_i (v3_1 + 1))]) [1, 2, 3, 0] rfl ?_
            exact ih1 v2_1 (v3_1 + 1) h_v2_1 c5 hm
          · have hm := z_neg c4 hm
            obtain ⟨c6, hm⟩ := z_chk_some hm
            refine z_iinc C dX4_wetCells_27 2 rfl (by decide) (L' := [(2, z_i (v2_1 + 1)), (0, .ref t_o), (1, .ref g_o), (3, z_i v3_1)]) rfl ?_
            obtain ⟨c7, hm⟩ := z_chk_some hm
            refine z_iinc C dX4_wetCells_30 3 rfl (by decide) (L' := [(3, z_i (v3_1 + 1)), (2, z_i (v2_1 + 1)), (0, .ref t_o), (1, .ref g_o)]) rfl ?_
            refine z_goto (tgt := 4) C dX4_wetCells_33 (by decide) ?_
            refine z_sub (L' := [(0, .ref t_o), (1, .ref g_o), (2, z_i (v2_1 + 1)), (3, z_i (v3_1 + 1))]) [2, 3, 1, 0] rfl ?_
            exact ih1 (v2_1 + 1) (v3_1 + 1) c6 c7 hm
  refine z_sub (L' := [(0, .ref t_o), (1, .ref g_o), (2, z_i 0), (3, z_i 0)]) [2, 3, 1, 0] rfl ?_
  exact L1 N 0 0 (z_k 0 rfl) (z_k 0 rfl) hl
set_option maxRecDepth 100000 in
theorem k_X5_commonDivisor (l : Launch) (G : z_G) (N : Nat) (x0 : Int) (x1 : Int) (h_x0 : z_n x0) (h_x1 : z_n x1) (rr : Int) (hm : m_X5_commonDivisor N x0 x1 = some (rr)) : z_M l G yX5_commonDivisor cX5_commonDivisor 4 (some .int) (k2_rm 0 0) [z_i x0, z_i x1] ([]) 0 0 (fun v w => v = some (z_i rr) ∧ w = [] ∧ z_n rr ∧ True) := by
  unfold m_X5_commonDivisor at hm
  refine z_M.intro (by decide +kernel) (Nat.le_of_ble_eq_true rfl) (L := [(0, z_i x0), (1, z_i x1)]) rfl (fun X C E => ?_)
  refine z_iconst C dX5_commonDivisor_0 ?_
  refine z_istore_n C dX5_commonDivisor_1 (by decide) (L' := [(2, z_i 0), (0, z_i x0), (1, z_i x1)]) rfl ?_
  obtain ⟨o0_1, hl, hm⟩ := z_b1s hm
  have JX1 : z_n o0_1 → z_J X 0 0 ([]) [(0, z_i o0_1)] 26 [] := by
    intro h_o0_1
    clear hl
    refine z_iload_n C dX5_commonDivisor_26 0 rfl ?_
    cases hm
    exact z_iret C E dX5_commonDivisor_27 ⟨rfl, rfl, h_o0_1, trivial⟩
  clear hm
  have L1 : ∀ (n1 : Nat) (v0_1 : Int) (v1_1 : Int) (v2_1 : Int), z_n v0_1 → z_n v1_1 → z_n v2_1 → m_X5_commonDivisor_l1 N n1 v0_1 v1_1 v2_1 = some (o0_1) → z_J X 0 0 ([]) [(0, z_i v0_1), (1, z_i v1_1), (2, z_i v2_1)] 2 [] := by
    clear hl
    intro n1
    induction n1 with
    | zero =>
      intro v0_1 v1_1 v2_1 h_v0_1 h_v1_1 h_v2_1 hm
      rw [m_X5_commonDivisor_l1] at hm
      cases hm
    | succ n1 ih1 =>
      intro v0_1 v1_1 v2_1 h_v0_1 h_v1_1 h_v2_1 hm
      rw [m_X5_commonDivisor_l1] at hm
      refine z_iload_n C dX5_commonDivisor_2 2 rfl ?_
      refine z_bipush C dX5_commonDivisor_3 (by decide) ?_
      refine z_icmp_ge (tgt := 26) C h_v2_1 (z_k 64 rfl) dX5_commonDivisor_5 (by decide) (fun c1 => ?_) (fun c1 => ?_)
      · have hm := z_pos c1 hm
        refine z_sub (L' := [(0, z_i v0_1)]) [0] rfl ?_
        cases hm
        exact JX1 h_v0_1
      · have hm := z_neg c1 hm
        refine z_iload_n C dX5_commonDivisor_8 1 rfl ?_
        refine z_if_eq (tgt := 26) C h_v1_1 dX5_commonDivisor_9 (by decide) (fun c2 => ?_) (fun c2 => ?_)
        · have hm := z_pos c2 hm
          refine z_sub (L' := [(0, z_i v0_1)]) [0] rfl ?_
          cases hm
          exact JX1 h_v0_1
        · have hm := z_neg c2 hm
          refine z_iload_n C dX5_commonDivisor_12 0 rfl ?_
          refine z_iload_n C dX5_commonDivisor_13 1 rfl ?_
          obtain ⟨c3, hm⟩ := z_chk_some hm
          obtain ⟨c4, hm⟩ := z_chk_some hm
          refine z_irem C h_v0_1 h_v1_1 c3 dX5_commonDivisor_14 ?_
          refine z_istore_n C dX5_commonDivisor_15 (by decide) (L' := [(3, z_i (Int.tmod v0_1 v1_1)), (0, z_i v0_1), (1, z_i v1_1), (2, z_i v2_1)]) rfl ?_
          refine z_iload_n C dX5_commonDivisor_16 2 rfl ?_
          refine z_istore_n C dX5_commonDivisor_17 (by decide) (L' := [(0, z_i v1_1), (3, z_i (Int.tmod v0_1 v1_1)), (1, z_i v1_1), (2, z_i v2_1)]) rfl ?_
          refine z_iload_n C dX5_commonDivisor_18 1 rfl ?_
          refine z_istore_n C dX5_commonDivisor_19 (by decide) (L' := [(1, z_i (Int.tmod v0_1 v1_1)), (0, z_i v1_1), (3, z_i (Int.tmod v0_1 v1_1)), (2, z_i v2_1)]) rfl ?_
          obtain ⟨c5, hm⟩ := z_chk_some hm
          refine z_iinc C dX5_commonDivisor_20 3 rfl (by decide) (L' := [(2, z_i (v2_1 + 1)), (1, z_i (Int.tmod v0_1 v1_1)), (0, z_i v1_1), (3, z_i (Int.tmod v0_1 v1_1))]) rfl ?_
          refine z_goto (tgt := 2) C dX5_commonDivisor_23 (by decide) ?_
          refine z_sub (L' := [(0, z_i v1_1), (1, z_i (Int.tmod v0_1 v1_1)), (2, z_i (v2_1 + 1))]) [2, 1, 0] rfl ?_
          exact ih1 v1_1 (Int.tmod v0_1 v1_1) (v2_1 + 1) h_v1_1 c4 c5 hm
  refine z_sub (L' := [(0, z_i x0), (1, z_i x1), (2, z_i 0)]) [1, 2, 0] rfl ?_
  exact L1 N x0 x1 0 h_x0 h_x1 (z_k 0 rfl) hl
set_option maxRecDepth 100000 in
theorem k_X5_lowestTerms (l : Launch) (G : z_G) (N : Nat) (x0 : Int) (x1 : Int) (x2 : Int) (h_x0 : z_n x0) (h_x1 : z_n x1) (h_x2 : z_n x2) (rr : Int) (hm : m_X5_lowestTerms N x0 x1 x2 = some (rr)) : z_M l G yX5_lowestTerms cX5_lowestTerms 5 (some .int) (k2_rm 1 23) [z_i x0, z_i x1, z_i x2] ([]) 0 0 (fun v w => v = some (z_i rr) ∧ w = [] ∧ z_n rr ∧ True) := by
  unfold m_X5_lowestTerms at hm
  refine z_M.intro (by decide +kernel) (Nat.le_of_ble_eq_true rfl) (L := [(0, z_i x0), (1, z_i x1), (2, z_i x2)]) rfl (fun X C E => ?_)
  refine z_iload_n C dX5_lowestTerms_0 0 rfl ?_
  refine z_iload_n C dX5_lowestTerms_1 1 rfl ?_
  obtain ⟨r1, k2, hm⟩ := z_b1s hm
  refine z_callSi C (k_X5_commonDivisor l G N x0 x1 h_x0 h_x1 r1 k2) zs_X5_commonDivisor zl_X5_229 dX5_lowestTerms_2 [] rfl rfl rfl (ws' := []) rfl rfl [] rfl (Nat.le_of_ble_eq_true rfl) ⟨Nat.le_of_ble_eq_true rfl, Nat.le_of_ble_eq_true rfl⟩ ⟨rfl, rfl⟩ ⟨Nat.zero_le _, Nat.zero_le _⟩ (fun hF => ?_)
  obtain ⟨h_r1, -⟩ := hF
  refine z_istore_n C dX5_lowestTerms_5 (by decide) (L' := [(3, z_i r1), (0, z_i x0), (1, z_i x1), (2, z_i x2)]) rfl ?_
  refine z_iload_n C dX5_lowestTerms_6 3 rfl ?_
  obtain ⟨s4, hj, hm⟩ := z_b1s hm
  have J5 : z_n s4 → z_J X 0 0 ([]) [(3, z_i r1)] 15 [z_i s4] := by
    intro h_s4
    clear hj
    refine z_istore C dX5_lowestTerms_15 (by decide) (L' := [(4, z_i s4), (3, z_i r1)]) rfl ?_
    refine z_iload_n C dX5_lowestTerms_17 1 rfl ?_
    refine z_iconst C dX5_lowestTerms_18 ?_
    refine z_icmp_le (tgt := 29) C h_r1 (z_k 1 rfl) dX5_lowestTerms_19 (by decide) (fun c6 => ?_) (fun c6 => ?_)
    · have hm := z_pos c6 hm
      refine z_iload C dX5_lowestTerms_29 0 rfl ?_
      cases hm
      exact z_iret C E dX5_lowestTerms_31 ⟨rfl, rfl, h_s4, trivial⟩
    · have hm := z_neg c6 hm
      refine z_iload C dX5_lowestTerms_22 0 rfl ?_
      refine z_iload_n C dX5_lowestTerms_24 1 rfl ?_
      obtain ⟨c7, hm⟩ := z_chk_some hm
      obtain ⟨c8, hm⟩ := z_chk_some hm
      refine z_idiv C h_s4 h_r1 c7 dX5_lowestTerms_25 ?_
      refine z_goto (tgt := 31) C dX5_lowestTerms_26 (by decide) ?_
      cases hm
      exact z_iret C E dX5_lowestTerms_31 ⟨rfl, rfl, c8, trivial⟩
  replace hm := hj
  clear hj
  refine z_if_ne (tgt := 14) C h_x2 dX5_lowestTerms_7 (by decide) (fun c3 => ?_) (fun c3 => ?_)
  · have hm := z_pos c3 hm
    refine z_iload_n C dX5_lowestTerms_14 2 rfl ?_
    refine z_sub (L' := [(3, z_i r1)]) [0] rfl ?_
    cases hm
    exact J5 h_x1
  · have hm := z_neg c3 hm
    refine z_iload_n C dX5_lowestTerms_10 1 rfl ?_
    refine z_goto (tgt := 15) C dX5_lowestTerms_11 (by decide) ?_
    refine z_sub (L' := [(3, z_i r1)]) [0] rfl ?_
    cases hm
    exact J5 h_x0
set_option maxRecDepth 100000 in
theorem k_X5_sky (l : Launch) (G : z_G) (N : Nat) (m_o tx_o gr_o nw_o og_o la_o ss_o un_o kp_o m_AringCell m_AringDrops gr_Akind gr_Abeside gr_AbesideBits nw_Aheight nw_Adrops ss_Astate ss_Awaiting : Nat) (m_ringCell : (Int → Int)) (m_ringDrops : (Int → Int)) (m_rings : Int) (gr_rows : Int) (gr_columns : Int) (gr_cells : Int) (gr_kind : (Int → Int)) (gr_beside : (Int → Int)) (gr_besideBits : (Int → Int64)) (nw_height : (Int → Int)) (nw_drops : (Int → Int)) (nw_hours : Int) (nw_restless : Int64) (ss_state : (Int → Int)) (ss_waiting : (Int → Int)) (ss_waits : Int) (ss_cells : Int) (ss_many : Int) (x1 : Int) (x2 : Int) (h_m_ringCell : z_r m_ringCell) (h_m_ringDrops : z_r m_ringDrops) (h_m_rings : z_n m_rings) (h_gr_rows : z_n gr_rows) (h_gr_columns : z_n gr_columns) (h_gr_cells : z_n gr_cells) (h_gr_kind : z_r gr_kind) (h_gr_beside : z_r gr_beside) (h_nw_height : z_r nw_height) (h_nw_drops : z_r nw_drops) (h_nw_hours : z_n nw_hours) (h_ss_state : z_r ss_state) (h_ss_waiting : z_r ss_waiting) (h_ss_waits : z_n ss_waits) (h_ss_cells : z_n ss_cells) (h_ss_many : z_n ss_many) (h_x1 : z_n x1) (h_x2 : z_n x2) (rr : Int) (q_ss_state : (Int → Int)) (q_ss_waiting : (Int → Int)) (q_ss_waits : Int) (q_ss_cells : Int) (q_ss_many : Int) (hm : m_X5_sky N gr_cells gr_beside nw_drops ss_state ss_waiting ss_waits ss_cells ss_many x1 x2 = some (rr, q_ss_state, q_ss_waiting, q_ss_waits, q_ss_cells, q_ss_many)) : z_M l G yX5_sky cX5_sky 3 (some .int) (k2_rm 3 72) [.ref m_o, z_i x1, z_i x2] ([(m_o, z_o 5 [.ref tx_o, .ref gr_o, .ref nw_o, .ref og_o, .ref la_o, .ref ss_o, .ref un_o, .ref kp_o, .ref m_AringCell, .ref m_AringDrops, z_i m_rings]), (m_AringCell, z_a G.2.1 6 m_ringCell), (m_AringDrops, z_a G.2.1 6 m_ringDrops), (gr_o, z_o 0 [z_i gr_rows, z_i gr_columns, z_i gr_cells, .ref gr_Akind, .ref gr_Abeside, .ref gr_AbesideBits]), (gr_Akind, z_a G.2.1 36 gr_kind), (gr_Abeside, z_a G.2.1 144 gr_beside), (gr_AbesideBits, z_l G.2.2.1 36 gr_besideBits), (nw_o, z_o 4 [.ref nw_Aheight, .ref nw_Adrops, z_i nw_hours, .long nw_restless]), (nw_Aheight, z_a G.2.1 36 nw_height), (nw_Adrops, z_a G.2.1 36 nw_drops), (ss_o, z_o 2 [.ref ss_Astate, .ref ss_Awaiting, z_i ss_waits, z_i ss_cells, z_i ss_many]), (ss_Astate, z_a G.2.1 36 ss_state), (ss_Awaiting, z_a G.2.1 36 ss_waiting)]) 0 0 (fun v w => v = some (z_i rr) ∧ w = [(m_o, z_o 5 [.ref tx_o, .ref gr_o, .ref nw_o, .ref og_o, .ref la_o, .ref ss_o, .ref un_o, .ref kp_o, .ref m_AringCell, .ref m_AringDrops, z_i m_rings]), (m_AringCell, z_a G.2.1 6 m_ringCell), (m_AringDrops, z_a G.2.1 6 m_ringDrops), (gr_o, z_o 0 [z_i gr_rows, z_i gr_columns, z_i gr_cells, .ref gr_Akind, .ref gr_Abeside, .ref gr_AbesideBits]), (gr_Akind, z_a G.2.1 36 gr_kind), (gr_Abeside, z_a G.2.1 144 gr_beside), (gr_AbesideBits, z_l G.2.2.1 36 gr_besideBits), (nw_o, z_o 4 [.ref nw_Aheight, .ref nw_Adrops, z_i nw_hours, .long nw_restless]), (nw_Aheight, z_a G.2.1 36 nw_height), (nw_Adrops, z_a G.2.1 36 nw_drops), (ss_o, z_o 2 [.ref ss_Astate, .ref ss_Awaiting, z_i q_ss_waits, z_i q_ss_cells, z_i q_ss_many]), (ss_Astate, z_a G.2.1 36 q_ss_state), (ss_Awaiting, z_a G.2.1 36 q_ss_waiting)] ∧ z_n rr ∧ z_r q_ss_state ∧ z_r q_ss_waiting ∧ z_n q_ss_waits ∧ z_n q_ss_cells ∧ z_n q_ss_many ∧ True) := by
  unfold m_X5_sky at hm
  refine z_M.intro (by decide +kernel) (Nat.le_of_ble_eq_true rfl) (L := [(0, .ref m_o), (1, z_i x1), (2, z_i x2)]) rfl (fun X C E => ?_)
  refine z_aload_n C dX5_sky_0 0 rfl ?_
  refine z_get C zf_X5_19 dX5_sky_1 0 rfl rfl ?_
  refine z_iload_n C dX5_sky_4 1 rfl ?_
  obtain ⟨r1, k2, hm⟩ := z_b1s hm
  refine z_callVi C (k_X0_holds l G N gr_o gr_Akind gr_Abeside gr_AbesideBits gr_rows gr_columns gr_cells gr_kind gr_beside gr_besideBits x1 h_gr_rows h_gr_columns h_gr_cells h_gr_kind h_gr_beside h_x1 r1 k2) zv_X0_holds zl_X5_96 dX5_sky_5 [3, 4, 5, 6] rfl rfl rfl (ws' := [(m_o, z_o 5 [.ref tx_o, .ref gr_o, .ref nw_o, .ref og_o, .ref la_o, .ref ss_o, .ref un_o, .ref kp_o, .ref m_AringCell, .ref m_AringDrops, z_i m_rings]), (m_AringCell, z_a G.2.1 6 m_ringCell), (m_AringDrops, z_a G.2.1 6 m_ringDrops), (gr_o, z_o 0 [z_i gr_rows, z_i gr_columns, z_i gr_cells, .ref gr_Akind, .ref gr_Abeside, .ref gr_AbesideBits]), (gr_Akind, z_a G.2.1 36 gr_kind), (gr_Abeside, z_a G.2.1 144 gr_beside), (gr_AbesideBits, z_l G.2.2.1 36 gr_besideBits), (nw_o, z_o 4 [.ref nw_Aheight, .ref nw_Adrops, z_i nw_hours, .long nw_restless]), (nw_Aheight, z_a G.2.1 36 nw_height), (nw_Adrops, z_a G.2.1 36 nw_drops), (ss_o, z_o 2 [.ref ss_Astate, .ref ss_Awaiting, z_i ss_waits, z_i ss_cells, z_i ss_many]), (ss_Astate, z_a G.2.1 36 ss_state), (ss_Awaiting, z_a G.2.1 36 ss_waiting)]) rfl 3 rfl rfl rfl [] rfl (Nat.le_of_ble_eq_true rfl) ⟨Nat.le_of_ble_eq_true rfl, Nat.le_of_ble_eq_true rfl⟩ ⟨rfl, rfl⟩ ⟨Nat.zero_le _, Nat.zero_le _⟩ (fun hF => ?_)
  obtain ⟨hb_r1, -⟩ := hF
  refine z_if_eq (tgt := 20) C (z_n01 hb_r1) dX5_sky_8 (by decide) (fun c3 => ?_) (fun c3 => ?_)
  · have hm := z_pos c3 hm
    refine z_iconst C dX5_sky_20 ?_
    cases hm
    exact z_iret C E dX5_sky_21 ⟨rfl, rfl, (z_k (-1) rfl), h_ss_state, h_ss_waiting, h_ss_waits, h_ss_cells, h_ss_many, trivial⟩
  · have hm := z_neg c3 hm
    refine z_iload_n C dX5_sky_11 2 rfl ?_
    refine z_iconst C dX5_sky_12 ?_
    refine z_iconst C dX5_sky_13 ?_
    obtain ⟨r4, k5, hm⟩ := z_b1s hm
    refine z_callSi C (k_X5_isFrom l G N x2 0 1 h_x2 (z_k 0 rfl) (z_k 1 rfl) r4 k5) zs_X5_isFrom zl_X5_100 dX5_sky_14 [] rfl rfl rfl (ws' := [(m_o, z_o 5 [.ref tx_o, .ref gr_o, .ref nw_o, .ref og_o, .ref la_o, .ref ss_o, .ref un_o, .ref kp_o, .ref m_AringCell, .ref m_AringDrops, z_i m_rings]), (m_AringCell, z_a G.2.1 6 m_ringCell), (m_AringDrops, z_a G.2.1 6 m_ringDrops), (gr_o, z_o 0 [z_i gr_rows, z_i gr_columns, z_i gr_cells, .ref gr_Akind, .ref gr_Abeside, .ref gr_AbesideBits]), (gr_Akind, z_a G.2.1 36 gr_kind), (gr_Abeside, z_a G.2.1 144 gr_beside), (gr_AbesideBits, z_l G.2.2.1 36 gr_besideBits), (nw_o, z_o 4 [.ref nw_Aheight, .ref nw_Adrops, z_i nw_hours, .long nw_restless]), (nw_Aheight, z_a G.2.1 36 nw_height), (nw_Adrops, z_a G.2.1 36 nw_drops), (ss_o, z_o 2 [.ref ss_Astate, .ref ss_Awaiting, z_i ss_waits, z_i ss_cells, z_i ss_many]), (ss_Astate, z_a G.2.1 36 ss_state), (ss_Awaiting, z_a G.2.1 36 ss_waiting)]) rfl rfl [] rfl (Nat.le_of_ble_eq_true rfl) ⟨Nat.le_of_ble_eq_true rfl, Nat.le_of_ble_eq_true rfl⟩ ⟨rfl, rfl⟩ ⟨Nat.zero_le _, Nat.zero_le _⟩ (fun hF => ?_)
    obtain ⟨hb_r4, -⟩ := hF
    refine z_if_ne (tgt := 22) C (z_n01 hb_r4) dX5_sky_17 (by decide) (fun c6 => ?_) (fun c6 => ?_)
    · have hm := z_pos c6 hm
      refine z_aload_n C dX5_sky_22 0 rfl ?_
      refine z_get C zf_X5_39 dX5_sky_23 0 rfl rfl ?_
      refine z_aload_n C dX5_sky_26 0 rfl ?_
      refine z_get C zf_X5_19 dX5_sky_27 0 rfl rfl ?_
      refine z_aload_n C dX5_sky_30 0 rfl ?_
      refine z_get C zf_X5_26 dX5_sky_31 0 rfl rfl ?_
      obtain ⟨ss_state_7, ss_waiting_8, ss_waits_9, ss_cells_10, ss_many_11, k12, hm⟩ := z_b5s hm
      refine z_callVv C (k_X2_map l G N ss_o ss_Astate ss_Awaiting gr_o gr_Akind gr_Abeside gr_AbesideBits nw_o nw_Aheight nw_Adrops ss_state ss_waiting ss_waits ss_cells ss_many gr_rows gr_columns gr_cells gr_kind gr_beside gr_besideBits nw_height nw_drops nw_hours nw_restless h_ss_state h_ss_waiting h_ss_waits h_ss_cells h_ss_many h_gr_rows h_gr_columns h_gr_cells h_gr_kind h_gr_beside h_nw_height h_nw_drops h_nw_hours ss_state_7 ss_waiting_8 ss_waits_9 ss_cells_10 ss_many_11 k12) zv_X2_map zl_X5_113 dX5_sky_34 [10, 11, 12, 3, 4, 5, 6, 7, 8, 9] rfl rfl rfl (ws' := [(m_o, z_o 5 [.ref tx_o, .ref gr_o, .ref nw_o, .ref og_o, .ref la_o, .ref ss_o, .ref un_o, .ref kp_o, .ref m_AringCell, .ref m_AringDrops, z_i m_rings]), (m_AringCell, z_a G.2.1 6 m_ringCell), (m_AringDrops, z_a G.2.1 6 m_ringDrops), (gr_o, z_o 0 [z_i gr_rows, z_i gr_columns, z_i gr_cells, .ref gr_Akind, .ref gr_Abeside, .ref gr_AbesideBits]), (gr_Akind, z_a G.2.1 36 gr_kind), (gr_Abeside, z_a G.2.1 144 gr_beside), (gr_AbesideBits, z_l G.2.2.1 36 gr_besideBits), (nw_o, z_o 4 [.ref nw_Aheight, .ref nw_Adrops, z_i nw_hours, .long nw_restless]), (nw_Aheight, z_a G.2.1 36 nw_height), (nw_Adrops, z_a G.2.1 36 nw_drops), (ss_o, z_o 2 [.ref ss_Astate, .ref ss_Awaiting, z_i ss_waits_9, z_i ss_cells_10, z_i ss_many_11]), (ss_Astate, z_a G.2.1 36 ss_state_7), (ss_Awaiting, z_a G.2.1 36 ss_waiting_8)]) rfl 10 rfl rfl rfl [] rfl (Nat.le_of_ble_eq_true rfl) ⟨Nat.le_of_ble_eq_true rfl, Nat.le_of_ble_eq_true rfl⟩ ⟨rfl, rfl⟩ ⟨Nat.zero_le _, Nat.zero_le _⟩ (fun hF => ?_)
      obtain ⟨h_ss_state_7, h_ss_waiting_8, h_ss_waits_9, h_ss_cells_10, h_ss_many_11, -⟩ := hF
      refine z_aload_n C dX5_sky_37 0 rfl ?_
      refine z_get C zf_X5_39 dX5_sky_38 0 rfl rfl ?_
      refine z_iload_n C dX5_sky_41 1 rfl ?_
      obtain ⟨r13, k14, hm⟩ := z_b1s hm
      refine z_callVi C (k_X2_stateOf l G N ss_o ss_Astate ss_Awaiting ss_state_7 ss_waiting_8 ss_waits_9 ss_cells_10 ss_many_11 x1 h_ss_state_7 h_ss_waiting_8 h_ss_waits_9 h_ss_cells_10 h_ss_many_11 h_x1 r13 k14) zv_X2_stateOf zl_X5_117 dX5_sky_42 [10, 11, 12] rfl rfl rfl (ws' := [(m_o, z_o 5 [.ref tx_o, .ref gr_o, .ref nw_o, .ref og_o, .ref la_o, .ref ss_o, .ref un_o, .ref kp_o, .ref m_AringCell, .ref m_AringDrops, z_i m_rings]), (m_AringCell, z_a G.2.1 6 m_ringCell), (m_AringDrops, z_a G.2.1 6 m_ringDrops), (gr_o, z_o 0 [z_i gr_rows, z_i gr_columns, z_i gr_cells, .ref gr_Akind, .ref gr_Abeside, .ref gr_AbesideBits]), (gr_Akind, z_a G.2.1 36 gr_kind), (gr_Abeside, z_a G.2.1 144 gr_beside), (gr_AbesideBits, z_l G.2.2.1 36 gr_besideBits), (nw_o, z_o 4 [.ref nw_Aheight, .ref nw_Adrops, z_i nw_hours, .long nw_restless]), (nw_Aheight, z_a G.2.1 36 nw_height), (nw_Adrops, z_a G.2.1 36 nw_drops), (ss_o, z_o 2 [.ref ss_Astate, .ref ss_Awaiting, z_i ss_waits_9, z_i ss_cells_10, z_i ss_many_11]), (ss_Astate, z_a G.2.1 36 ss_state_7), (ss_Awaiting, z_a G.2.1 36 ss_waiting_8)]) rfl 10 rfl rfl rfl [] rfl (Nat.le_of_ble_eq_true rfl) ⟨Nat.le_of_ble_eq_true rfl, Nat.le_of_ble_eq_true rfl⟩ ⟨rfl, rfl⟩ ⟨Nat.zero_le _, Nat.zero_le _⟩ (fun hF => ?_)
      obtain ⟨h_r13, -⟩ := hF
      refine z_bipush C dX5_sky_45 (by decide) ?_
      refine z_icmp_ne (tgt := 53) C h_r13 (z_k (-4) rfl) dX5_sky_47 (by decide) (fun c15 => ?_) (fun c15 => ?_)
      · have hm := z_pos c15 hm
        refine z_aload_n C dX5_sky_53 0 rfl ?_
        refine z_get C zf_X5_39 dX5_sky_54 0 rfl rfl ?_
        refine z_iload_n C dX5_sky_57 1 rfl ?_
        obtain ⟨r16, k17, hm⟩ := z_b1s hm
        refine z_callVi C (k_X2_sizeAt l G N ss_o ss_Astate ss_Awaiting ss_state_7 ss_waiting_8 ss_waits_9 ss_cells_10 ss_many_11 x1 h_ss_state_7 h_ss_waiting_8 h_ss_waits_9 h_ss_cells_10 h_ss_many_11 h_x1 r16 k17) zv_X2_sizeAt zl_X5_121 dX5_sky_58 [10, 11, 12] rfl rfl rfl (ws' := [(m_o, z_o 5 [.ref tx_o, .ref gr_o, .ref nw_o, .ref og_o, .ref la_o, .ref ss_o, .ref un_o, .ref kp_o, .ref m_AringCell, .ref m_AringDrops, z_i m_rings]), (m_AringCell, z_a G.2.1 6 m_ringCell), (m_AringDrops, z_a G.2.1 6 m_ringDrops), (gr_o, z_o 0 [z_i gr_rows, z_i gr_columns, z_i gr_cells, .ref gr_Akind, .ref gr_Abeside, .ref gr_AbesideBits]), (gr_Akind, z_a G.2.1 36 gr_kind), (gr_Abeside, z_a G.2.1 144 gr_beside), (gr_AbesideBits, z_l G.2.2.1 36 gr_besideBits), (nw_o, z_o 4 [.ref nw_Aheight, .ref nw_Adrops, z_i nw_hours, .long nw_restless]), (nw_Aheight, z_a G.2.1 36 nw_height), (nw_Adrops, z_a G.2.1 36 nw_drops), (ss_o, z_o 2 [.ref ss_Astate, .ref ss_Awaiting, z_i ss_waits_9, z_i ss_cells_10, z_i ss_many_11]), (ss_Astate, z_a G.2.1 36 ss_state_7), (ss_Awaiting, z_a G.2.1 36 ss_waiting_8)]) rfl 10 rfl rfl rfl [] rfl (Nat.le_of_ble_eq_true rfl) ⟨Nat.le_of_ble_eq_true rfl, Nat.le_of_ble_eq_true rfl⟩ ⟨rfl, rfl⟩ ⟨Nat.zero_le _, Nat.zero_le _⟩ (fun hF => ?_)
        obtain ⟨h_r16, -⟩ := hF
        refine z_aload_n C dX5_sky_61 0 rfl ?_
        refine z_get C zf_X5_26 dX5_sky_62 0 rfl rfl ?_
        refine z_aload_n C dX5_sky_65 0 rfl ?_
        refine z_get C zf_X5_19 dX5_sky_66 0 rfl rfl ?_
        obtain ⟨r18, k19, hm⟩ := z_b1s hm
        refine z_callVi C (k_X4_wetCells l G N nw_o nw_Aheight nw_Adrops gr_o gr_Akind gr_Abeside gr_AbesideBits nw_height nw_drops nw_hours nw_restless gr_rows gr_columns gr_cells gr_kind gr_beside gr_besideBits h_nw_height h_nw_drops h_nw_hours h_gr_rows h_gr_columns h_gr_cells h_gr_kind h_gr_beside r18 k19) zv_X4_wetCells zl_X5_203 dX5_sky_69 [7, 8, 9, 3, 4, 5, 6] rfl rfl rfl (ws' := [(m_o, z_o 5 [.ref tx_o, .ref gr_o, .ref nw_o, .ref og_o, .ref la_o, .ref ss_o, .ref un_o, .ref kp_o, .ref m_AringCell, .ref m_AringDrops, z_i m_rings]), (m_AringCell, z_a G.2.1 6 m_ringCell), (m_AringDrops, z_a G.2.1 6 m_ringDrops), (gr_o, z_o 0 [z_i gr_rows, z_i gr_columns, z_i gr_cells, .ref gr_Akind, .ref gr_Abeside, .ref gr_AbesideBits]), (gr_Akind, z_a G.2.1 36 gr_kind), (gr_Abeside, z_a G.2.1 144 gr_beside), (gr_AbesideBits, z_l G.2.2.1 36 gr_besideBits), (nw_o, z_o 4 [.ref nw_Aheight, .ref nw_Adrops, z_i nw_hours, .long nw_restless]), (nw_Aheight, z_a G.2.1 36 nw_height), (nw_Adrops, z_a G.2.1 36 nw_drops), (ss_o, z_o 2 [.ref ss_Astate, .ref ss_Awaiting, z_i ss_waits_9, z_i ss_cells_10, z_i ss_many_11]), (ss_Astate, z_a G.2.1 36 ss_state_7), (ss_Awaiting, z_a G.2.1 36 ss_waiting_8)]) rfl 7 rfl rfl rfl [z_i r16] rfl (Nat.le_of_ble_eq_true rfl) ⟨Nat.le_of_ble_eq_true rfl, Nat.le_of_ble_eq_true rfl⟩ ⟨rfl, rfl⟩ ⟨Nat.zero_le _, Nat.zero_le _⟩ (fun hF => ?_)
        obtain ⟨h_r18, -⟩ := hF
        refine z_iload_n C dX5_sky_72 2 rfl ?_
        obtain ⟨r20, k21, hm⟩ := z_b1s hm
        refine z_callSi C (k_X5_lowestTerms l G N r16 r18 x2 h_r16 h_r18 h_x2 r20 k21) zs_X5_lowestTerms zl_X5_206 dX5_sky_73 [] rfl rfl rfl (ws' := [(m_o, z_o 5 [.ref tx_o, .ref gr_o, .ref nw_o, .ref og_o, .ref la_o, .ref ss_o, .ref un_o, .ref kp_o, .ref m_AringCell, .ref m_AringDrops, z_i m_rings]), (m_AringCell, z_a G.2.1 6 m_ringCell), (m_AringDrops, z_a G.2.1 6 m_ringDrops), (gr_o, z_o 0 [z_i gr_rows, z_i gr_columns, z_i gr_cells, .ref gr_Akind, .ref gr_Abeside, .ref gr_AbesideBits]), (gr_Akind, z_a G.2.1 36 gr_kind), (gr_Abeside, z_a G.2.1 144 gr_beside), (gr_AbesideBits, z_l G.2.2.1 36 gr_besideBits), (nw_o, z_o 4 [.ref nw_Aheight, .ref nw_Adrops, z_i nw_hours, .long nw_restless]), (nw_Aheight, z_a G.2.1 36 nw_height), (nw_Adrops, z_a G.2.1 36 nw_drops), (ss_o, z_o 2 [.ref ss_Astate, .ref ss_Awaiting, z_i ss_waits_9, z_i ss_cells_10, z_i ss_many_11]), (ss_Astate, z_a G.2.1 36 ss_state_7), (ss_Awaiting, z_a G.2.1 36 ss_waiting_8)]) rfl rfl [] rfl (Nat.le_of_ble_eq_true rfl) ⟨Nat.le_of_ble_eq_true rfl, Nat.le_of_ble_eq_true rfl⟩ ⟨rfl, rfl⟩ ⟨Nat.zero_le _, Nat.zero_le _⟩ (fun hF => ?_)
        obtain ⟨h_r20, -⟩ := hF
        cases hm
        exact z_iret C E dX5_sky_76 ⟨rfl, rfl, h_r20, h_ss_state_7, h_ss_waiting_8, h_ss_waits_9, h_ss_cells_10, h_ss_many_11, trivial⟩
      · have hm := z_neg c15 hm
        refine z_bipush C dX5_sky_50 (by decide) ?_
        cases hm
        exact z_iret C E dX5_sky_52 ⟨rfl, rfl, (z_k (-4) rfl), h_ss_state_7, h_ss_waiting_8, h_ss_waits_9, h_ss_cells_10, h_ss_many_11, trivial⟩
    · have hm := z_neg c6 hm
      refine z_iconst C dX5_sky_20 ?_
      cases hm
      exact z_iret C E dX5_sky_21 ⟨rfl, rfl, (z_k (-1) rfl), h_ss_state, h_ss_waiting, h_ss_waits, h_ss_cells, h_ss_many, trivial⟩
set_option maxRecDepth 100000 in
theorem k_X5_wetBehindHours (l : Launch) (G : z_G) (N : Nat) (m_o tx_o gr_o nw_o og_o la_o ss_o un_o kp_o m_AringCell m_AringDrops gr_Akind gr_Abeside gr_AbesideBits nw_Aheight nw_Adrops la_Aheight la_Adrops : Nat) (m_ringCell : (Int → Int)) (m_ringDrops : (Int → Int)) (m_rings : Int) (gr_rows : Int) (gr_columns : Int) (gr_cells : Int) (gr_kind : (Int → Int)) (gr_beside : (Int → Int)) (gr_besideBits : (Int → Int64)) (nw_height : (Int → Int)) (nw_drops : (Int → Int)) (nw_hours : Int) (nw_restless : Int64) (la_height : (Int → Int)) (la_drops : (Int → Int)) (la_hours : Int) (la_restless : Int64) (x1 : Int) (x2 : Int) (h_m_ringCell : z_r m_ringCell) (h_m_ringDrops : z_r m_ringDrops) (h_m_rings : z_n m_rings) (h_gr_rows : z_n gr_rows) (h_gr_columns : z_n gr_columns) (h_gr_cells : z_n gr_cells) (h_gr_kind : z_r gr_kind) (h_gr_beside : z_r gr_beside) (h_nw_height : z_r nw_height) (h_nw_drops : z_r nw_drops) (h_nw_hours : z_n nw_hours) (h_la_height : z_r la_height) (h_la_drops : z_r la_drops) (h_la_hours : z_n la_hours) (h_x1 : z_n x1) (h_x2 : z_n x2) (rr : Int) (q_la_height : (Int → Int)) (q_la_drops : (Int → Int)) (q_la_hours : Int) (q_la_restless : Int64) (hm : m_X5_wetBehindHours N gr_cells gr_kind gr_beside gr_besideBits nw_height nw_drops nw_hours la_height la_drops la_hours la_restless x1 x2 = some (rr, q_la_height, q_la_drops, q_la_hours, q_la_restless)) : z_M l G yX5_wetBehindHours cX5_wetBehindHours 5 (some .int) (k2_rm 6 133) [.ref m_o, z_i x1, z_i x2] ([(m_o, z_o 5 [.ref tx_o, .ref gr_o, .ref nw_o, .ref og_o, .ref la_o, .ref ss_o, .ref un_o, .ref kp_o, .ref m_AringCell, .ref m_AringDrops, z_i m_rings]), (m_AringCell, z_a G.2.1 6 m_ringCell), (m_AringDrops, z_a G.2.1 6 m_ringDrops), (gr_o, z_o 0 [z_i gr_rows, z_i gr_columns, z_i gr_cells, .ref gr_Akind, .ref gr_Abeside, .ref gr_AbesideBits]), (gr_Akind, z_a G.2.1 36 gr_kind), (gr_Abeside, z_a G.2.1 144 gr_beside), (gr_AbesideBits, z_l G.2.2.1 36 gr_besideBits), (nw_o, z_o 4 [.ref nw_Aheight, .ref nw_Adrops, z_i nw_hours, .long nw_restless]), (nw_Aheight, z_a G.2.1 36 nw_height), (nw_Adrops, z_a G.2.1 36 nw_drops), (la_o, z_o 4 [.ref la_Aheight, .ref la_Adrops, z_i la_hours, .long la_restless]), (la_Aheight, z_a G.2.1 36 la_height), (la_Adrops, z_a G.2.1 36 la_drops)]) 0 0 (fun v w => v = some (z_i rr) ∧ w = [(m_o, z_o 5 [.ref tx_o, .ref gr_o, .ref nw_o, .ref og_o, .ref la_o, .ref ss_o, .ref un_o, .ref kp_o, .ref m_AringCell, .ref m_AringDrops, z_i m_rings]), (m_AringCell, z_a G.2.1 6 m_ringCell), (m_AringDrops, z_a G.2.1 6 m_ringDrops), (gr_o, z_o 0 [z_i gr_rows, z_i gr_columns, z_i gr_cells, .ref gr_Akind, .ref gr_Abeside, .ref gr_AbesideBits]), (gr_Akind, z_a G.2.1 36 gr_kind), (gr_Abeside, z_a G.2.1 144 gr_beside), (gr_AbesideBits, z_l G.2.2.1 36 gr_besideBits), (nw_o, z_o 4 [.ref nw_Aheight, .ref nw_Adrops, z_i nw_hours, .long nw_restless]), (nw_Aheight, z_a G.2.1 36 nw_height), (nw_Adrops, z_a G.2.1 36 nw_drops), (la_o, z_o 4 [.ref la_Aheight, .ref la_Adrops, z_i q_la_hours, .long q_la_restless]), (la_Aheight, z_a G.2.1 36 q_la_height), (la_Adrops, z_a G.2.1 36 q_la_drops)] ∧ z_n rr ∧ z_r q_la_height ∧ z_r q_la_drops ∧ z_n q_la_hours ∧ True) := by
  unfold m_X5_wetBehindHours at hm
  refine z_M.intro (by decide +kernel) (Nat.le_of_ble_eq_true rfl) (L := [(0, .ref m_o), (1, z_i x1), (2, z_i x2)]) rfl (fun X C E => ?_)
  refine z_iconst C dX5_wetBehindHours_0 ?_
  refine z_istore_n C dX5_wetBehindHours_1 (by decide) (L' := [(3, z_i 0), (0, .ref m_o), (1, z_i x1), (2, z_i x2)]) rfl ?_
  refine z_aload_n C dX5_wetBehindHours_2 1 rfl ?_
  refine z_get C zf_X5_33 dX5_wetBehindHours_3 0 rfl rfl ?_
  refine z_aload_n C dX5_wetBehindHours_6 1 rfl ?_
  refine z_get C zf_X5_26 dX5_wetBehindHours_7 0 rfl rfl ?_
  obtain ⟨la_height_1, la_drops_2, la_hours_3, k4, hm⟩ := z_b3s hm
  refine z_callVv C (k_X4_copyFrom l G N la_o la_Aheight la_Adrops nw_o nw_Aheight nw_Adrops la_height la_drops la_hours la_restless nw_height nw_drops nw_hours nw_restless h_la_height h_la_drops h_la_hours h_nw_height h_nw_drops h_nw_hours la_height_1 la_drops_2 la_hours_3 k4) zv_X4_copyFrom zl_X5_162 dX5_wetBehindHours_10 [10, 11, 12, 7, 8, 9] rfl rfl rfl (ws' := [(m_o, z_o 5 [.ref tx_o, .ref gr_o, .ref nw_o, .ref og_o, .ref la_o, .ref ss_o, .ref un_o, .ref kp_o, .ref m_AringCell, .ref m_AringDrops, z_i m_rings]), (m_AringCell, z_a G.2.1 6 m_ringCell), (m_AringDrops, z_a G.2.1 6 m_ringDrops), (gr_o, z_o 0 [z_i gr_rows, z_i gr_columns, z_i gr_cells, .ref gr_Akind, .ref gr_Abeside, .ref gr_AbesideBits]), (gr_Akind, z_a G.2.1 36 gr_kind), (gr_Abeside, z_a G.2.1 144 gr_beside), (gr_AbesideBits, z_l G.2.2.1 36 gr_besideBits), (nw_o, z_o 4 [.ref nw_Aheight, .ref nw_Adrops, z_i nw_hours, .long nw_restless]), (nw_Aheight, z_a G.2.1 36 nw_height), (nw_Adrops, z_a G.2.1 36 nw_drops), (la_o, z_o 4 [.ref la_Aheight, .ref la_Adrops, z_i la_hours_3, .long la_restless]), (la_Aheight, z_a G.2.1 36 la_height_1), (la_Adrops, z_a G.2.1 36 la_drops_2)]) rfl 10 rfl rfl rfl [] rfl (Nat.le_of_ble_eq_true rfl) ⟨Nat.le_of_ble_eq_true rfl, Nat.le_of_ble_eq_true rfl⟩ ⟨rfl, rfl⟩ ⟨Nat.zero_le _, Nat.zero_le _⟩ (fun hF => ?_)
  obtain ⟨h_la_height_1, h_la_drops_2, h_la_hours_3, -⟩ := hF
  refine z_iconst C dX5_wetBehindHours_13 ?_
  refine z_istore C dX5_wetBehindHours_14 (by decide) (L' := [(4, z_i 0), (3, z_i 0), (0, .ref m_o), (1, z_i x1), (2, z_i x2)]) rfl ?_
  obtain ⟨o3_1, o_la_drops_1, o_la_hours_1, o_la_restless_1, hl, hm⟩ := z_b4s hm
  have JX1 : z_n o3_1 → z_r o_la_drops_1 → z_n o_la_hours_1 → z_J X 0 0 ([(m_o, z_o 5 [.ref tx_o, .ref gr_o, .ref nw_o, .ref og_o, .ref la_o, .ref ss_o, .ref un_o, .ref kp_o, .ref m_AringCell, .ref m_AringDrops, z_i m_rings]), (m_AringCell, z_a G.2.1 6 m_ringCell), (m_AringDrops, z_a G.2.1 6 m_ringDrops), (gr_o, z_o 0 [z_i gr_rows, z_i gr_columns, z_i gr_cells, .ref gr_Akind, .ref gr_Abeside, .ref gr_AbesideBits]), (gr_Akind, z_a G.2.1 36 gr_kind), (gr_Abeside, z_a G.2.1 144 gr_beside), (gr_AbesideBits, z_l G.2.2.1 36 gr_besideBits), (nw_o, z_o 4 [.ref nw_Aheight, .ref nw_Adrops, z_i nw_hours, .long nw_restless]), (nw_Aheight, z_a G.2.1 36 nw_height), (nw_Adrops, z_a G.2.1 36 nw_drops), (la_o, z_o 4 [.ref la_Aheight, .ref la_Adrops, z_i o_la_hours_1, .long o_la_restless_1]), (la_Aheight, z_a G.2.1 36 la_height_1), (la_Adrops, z_a G.2.1 36 o_la_drops_1)]) [(3, z_i o3_1)] 69 [] := by
    intro h_o3_1 h_o_la_drops_1 h_o_la_hours_1
    clear hl
    refine z_iload_n C dX5_wetBehindHours_69 0 rfl ?_
    cases hm
    exact z_iret C E dX5_wetBehindHours_70 ⟨rfl, rfl, h_o3_1, h_la_height_1, h_o_la_drops_1, h_o_la_hours_1, trivial⟩
  clear hm
  have L1 : ∀ (n1 : Nat) (v3_1 : Int) (v4_1 : Int) (la_drops_1 : (Int → Int)) (la_hours_1 : Int) (la_restless_1 : Int64), z_n v3_1 → z_n v4_1 → z_r la_drops_1 → z_n la_hours_1 → m_X5_wetBehindHours_l1 N x2 gr_cells x1 la_height_1 gr_kind gr_beside gr_besideBits n1 v3_1 v4_1 la_drops_1 la_hours_1 la_restless_1 = some (o3_1, o_la_drops_1, o_la_hours_1, o_la_restless_1) → z_J X 0 0 ([(m_o, z_o 5 [.ref tx_o, .ref gr_o, .ref nw_o, .ref og_o, .ref la_o, .ref ss_o, .ref un_o, .ref kp_o, .ref m_AringCell, .ref m_AringDrops, z_i m_rings]), (m_AringCell, z_a G.2.1 6 m_ringCell), (m_AringDrops, z_a G.2.1 6 m_ringDrops), (gr_o, z_o 0 [z_i gr_rows, z_i gr_columns, z_i gr_cells, .ref gr_Akind, .ref gr_Abeside, .ref gr_AbesideBits]), (gr_Akind, z_a G.2.1 36 gr_kind), (gr_Abeside, z_a G.2.1 144 gr_beside), (gr_AbesideBits, z_l G.2.2.1 36 gr_besideBits), (nw_o, z_o 4 [.ref nw_Aheight, .ref nw_Adrops, z_i nw_hours, .long nw_restless]), (nw_Aheight, z_a G.2.1 36 nw_height), (nw_Adrops, z_a G.2.1 36 nw_drops), (la_o, z_o 4 [.ref la_Aheight, .ref la_Adrops, z_i la_hours_1, .long la_restless_1]), (la_Aheight, z_a G.2.1 36 la_height_1), (la_Adrops, z_a G.2.1 36 la_drops_1)]) [(0, .ref m_o), (1, z_i x1), (2, z_i x2), (3, z_i v3_1), (4, z_i v4_1)] 16 [] := by
    clear hl
    intro n1
    induction n1 with
    | zero =>
      intro v3_1 v4_1 la_drops_1 la_hours_1 la_restless_1 h_v3_1 h_v4_1 h_la_drops_1 h_la_hours_1 hm
      rw [m_X5_wetBehindHours_l1] at hm
      cases hm
    | succ n1 ih1 =>
      intro v3_1 v4_1 la_drops_1 la_hours_1 la_restless_1 h_v3_1 h_v4_1 h_la_drops_1 h_la_hours_1 hm
      rw [m_X5_wetBehindHours_l1] at hm
      refine z_iload C dX5_wetBehindHours_16 4 rfl ?_
      refine z_iload_n C dX5_wetBehindHours_18 2 rfl ?_
      refine z_icmp_gt (tgt := 69) C h_v4_1 h_x2 dX5_wetBehindHours_19 (by decide) (fun c5 => ?_) (fun c5 => ?_)
      · have hm := z_pos c5 hm
        refine z_sub (L' := [(3, z_i v3_1)]) [3] rfl ?_
        cases hm
        exact JX1 h_v3_1 h_la_drops_1 h_la_hours_1
      · have hm := z_neg c5 hm
        refine z_aload_n C dX5_wetBehindHours_22 0 rfl ?_
        refine z_get C zf_X5_19 dX5_wetBehindHours_23 0 rfl rfl ?_
        refine z_iload_n C dX5_wetBehindHours_26 1 rfl ?_
        obtain ⟨r6, k7, hm⟩ := z_b1s hm
        refine z_callVi C (k_X0_holds l G N gr_o gr_Akind gr_Abeside gr_AbesideBits gr_rows gr_columns gr_cells gr_kind gr_beside gr_besideBits x1 h_gr_rows h_gr_columns h_gr_cells h_gr_kind h_gr_beside h_x1 r6 k7) zv_X0_holds zl_X5_96 dX5_wetBehindHours_27 [3, 4, 5, 6] rfl rfl rfl (ws' := [(m_o, z_o 5 [.ref tx_o, .ref gr_o, .ref nw_o, .ref og_o, .ref la_o, .ref ss_o, .ref un_o, .ref kp_o, .ref m_AringCell, .ref m_AringDrops, z_i m_rings]), (m_AringCell, z_a G.2.1 6 m_ringCell), (m_AringDrops, z_a G.2.1 6 m_ringDrops), (gr_o, z_o 0 [z_i gr_rows, z_i gr_columns, z_i gr_cells, .ref gr_Akind, .ref gr_Abeside, .ref gr_AbesideBits]), (gr_Akind, z_a G.2.1 36 gr_kind), (gr_Abeside, z_a G.2.1 144 gr_beside), (gr_AbesideBits, z_l G.2.2.1 36 gr_besideBits), (nw_o, z_o 4 [.ref nw_Aheight, .ref nw_Adrops, z_i nw_hours, .long nw_restless]), (nw_Aheight, z_a G.2.1 36 nw_height), (nw_Adrops, z_a G.2.1 36 nw_drops), (la_o, z_o 4 [.ref la_Aheight, .ref la_Adrops, z_i la_hours_1, .long la_restless_1]), (la_Aheight, z_a G.2.1 36 la_height_1), (la_Adrops, z_a G.2.1 36 la_drops_1)]) rfl 3 rfl rfl rfl [] rfl (Nat.le_of_ble_eq_true rfl) ⟨Nat.le_of_ble_eq_true rfl, Nat.le_of_ble_eq_true rfl⟩ ⟨rfl, rfl⟩ ⟨Nat.zero_le _, Nat.zero_le _⟩ (fun hF => ?_)
        obtain ⟨hb_r6, -⟩ := hF
        obtain ⟨v3_11, hj, hm⟩ := z_b1s hm
        have J12 : z_n v3_11 → z_J X 0 0 ([(m_o, z_o 5 [.ref tx_o, .ref gr_o, .ref nw_o, .ref og_o, .ref la_o, .ref ss_o, .ref un_o, .ref kp_o, .ref m_AringCell, .ref m_AringDrops, z_i m_rings]), (m_AringCell, z_a G.2.1 6 m_ringCell), (m_AringDrops, z_a G.2.1 6 m_ringDrops), (gr_o, z_o 0 [z_i gr_rows, z_i gr_columns, z_i gr_cells, .ref gr_Akind, .ref gr_Abeside, .ref gr_AbesideBits]), (gr_Akind, z_a G.2.1 36 gr_kind), (gr_Abeside, z_a G.2.1 144 gr_beside), (gr_AbesideBits, z_l G.2.2.1 36 gr_besideBits), (nw_o, z_o 4 [.ref nw_Aheight, .ref nw_Adrops, z_i nw_hours, .long nw_restless]), (nw_Aheight, z_a G.2.1 36 nw_height), (nw_Adrops, z_a G.2.1 36 nw_drops), (la_o, z_o 4 [.ref la_Aheight, .ref la_Adrops, z_i la_hours_1, .long la_restless_1]), (la_Aheight, z_a G.2.1 36 la_height_1), (la_Adrops, z_a G.2.1 36 la_drops_1)]) [(0, .ref m_o), (1, z_i x1), (2, z_i x2), (3, z_i v3_11), (4, z_i v4_1)] 52 [] := by
          intro h_v3_11
          clear hj
          refine z_aload_n C dX5_wetBehindHours_52 0 rfl ?_
          refine z_get C zf_X5_33 dX5_wetBehindHours_53 0 rfl rfl ?_
          refine z_aload_n C dX5_wetBehindHours_56 0 rfl ?_
          refine z_get C zf_X5_19 dX5_wetBehindHours_57 0 rfl rfl ?_
          obtain ⟨la_drops_13, la_hours_14, la_restless_15, k16, hm⟩ := z_b3s hm
          refine z_callVv C (k_X4_passHour l G N la_o la_Aheight la_Adrops gr_o gr_Akind gr_Abeside gr_AbesideBits la_height_1 la_drops_1 la_hours_1 la_restless_1 gr_rows gr_columns gr_cells gr_kind gr_beside gr_besideBits h_la_height_1 h_la_drops_1 h_la_hours_1 h_gr_rows h_gr_columns h_gr_cells h_gr_kind h_gr_beside la_drops_13 la_hours_14 la_restless_15 k16) zv_X4_passHour zl_X5_168 dX5_wetBehindHours_60 [10, 11, 12, 3, 4, 5, 6] rfl rfl rfl (ws' := [(m_o, z_o 5 [.ref tx_o, .ref gr_o, .ref nw_o, .ref og_o, .ref la_o, .ref ss_o, .ref un_o, .ref kp_o, .ref m_AringCell, .ref m_AringDrops, z_i m_rings]), (m_AringCell, z_a G.2.1 6 m_ringCell), (m_AringDrops, z_a G.2.1 6 m_ringDrops), (gr_o, z_o 0 [z_i gr_rows, z_i gr_columns, z_i gr_cells, .ref gr_Akind, .ref gr_Abeside, .ref gr_AbesideBits]), (gr_Akind, z_a G.2.1 36 gr_kind), (gr_Abeside, z_a G.2.1 144 gr_beside), (gr_AbesideBits, z_l G.2.2.1 36 gr_besideBits), (nw_o, z_o 4 [.ref nw_Aheight, .ref nw_Adrops, z_i nw_hours, .long nw_restless]), (nw_Aheight, z_a G.2.1 36 nw_height), (nw_Adrops, z_a G.2.1 36 nw_drops), (la_o, z_o 4 [.ref la_Aheight, .ref la_Adrops, z_i la_hours_14, .long la_restless_15]), (la_Aheight, z_a G.2.1 36 la_height_1), (la_Adrops, z_a G.2.1 36 la_drops_13)]) rfl 10 rfl rfl rfl [] rfl (Nat.le_of_ble_eq_true rfl) ⟨Nat.le_of_ble_eq_true rfl, Nat.le_of_ble_eq_true rfl⟩ ⟨rfl, rfl⟩ ⟨Nat.zero_le _, Nat.zero_le _⟩ (fun hF => ?_)
          obtain ⟨h_la_drops_13, h_la_hours_14, -⟩ := hF
          obtain ⟨c17, hm⟩ := z_chk_some hm
          refine z_iinc C dX5_wetBehindHours_63 4 rfl (by decide) (L' := [(4, z_i (v4_1 + 1)), (0, .ref m_o), (1, z_i x1), (2, z_i x2), (3, z_i v3_11)]) rfl ?_
          refine z_goto (tgt := 16) C dX5_wetBehindHours_66 (by decide) ?_
          refine z_sub (L' := [(0, .ref m_o), (1, z_i x1), (2, z_i x2), (3, z_i v3_11), (4, z_i (v4_1 + 1))]) [1, 2, 3, 4, 0] rfl ?_
          exact ih1 v3_11 (v4_1 + 1) la_drops_13 la_hours_14 la_restless_15 h_v3_11 c17 h_la_drops_13 h_la_hours_14 hm
        replace hm := hj
        clear hj
        refine z_if_eq (tgt := 52) C (z_n01 hb_r6) dX5_wetBehindHours_30 (by decide) (fun c8 => ?_) (fun c8 => ?_)
        · have hm := z_pos c8 hm
          cases hm
          exact J12 h_v3_1
        · have hm := z_neg c8 hm
          refine z_aload_n C dX5_wetBehindHours_33 0 rfl ?_
          refine z_get C zf_X5_33 dX5_wetBehindHours_34 0 rfl rfl ?_
          refine z_get C zf_X5_110 dX5_wetBehindHours_37 10 rfl rfl ?_
          refine z_iload_n C dX5_wetBehindHours_40 1 rfl ?_
          obtain ⟨c9, hm⟩ := z_chk_some hm
          refine z_iald C dX5_wetBehindHours_41 12 rfl c9 h_x1 ?_
          refine z_if_le (tgt := 52) C (h_la_drops_1 _) dX5_wetBehindHours_42 (by decide) (fun c10 => ?_) (fun c10 => ?_)
          · have hm := z_pos c10 hm
            cases hm
            exact J12 h_v3_1
          · have hm := z_neg c10 hm
            refine z_iload_n C dX5_wetBehindHours_45 3 rfl ?_
            refine z_iconst C dX5_wetBehindHours_46 ?_
            refine z_iload C dX5_wetBehindHours_47 4 rfl ?_
            refine z_ishl C dX5_wetBehindHours_49 ?_
            refine z_ior C dX5_wetBehindHours_50 ?_
            refine z_istore_n C dX5_wetBehindHours_51 (by decide) (L' := [(3, z_i (z_or v3_1 (z_shl 1 v4_1))), (0, .ref m_o), (1, z_i x1), (2, z_i x2), (4, z_i v4_1)]) rfl ?_
            refine z_sub (L' := [(0, .ref m_o), (1, z_i x1), (2, z_i x2), (3, z_i (z_or v3_1 (z_shl 1 v4_1))), (4, z_i v4_1)]) [1, 2, 3, 0, 4] rfl ?_
            cases hm
            exact J12 (z_n_or _ _)
  refine z_sub (L' := [(0, .ref m_o), (1, z_i x1), (2, z_i x2), (3, z_i 0), (4, z_i 0)]) [2, 3, 4, 1, 0] rfl ?_
  exact L1 N 0 0 la_drops_2 la_hours_3 la_restless (z_k 0 rfl) (z_k 0 rfl) h_la_drops_2 h_la_hours_3 hl
