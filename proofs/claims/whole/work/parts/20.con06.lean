set_option maxRecDepth 100000 in
theorem k_X5_cell (l : Launch) (G : z_G) (N : Nat) (m_o tx_o gr_o nw_o og_o la_o ss_o un_o kp_o m_AringCell m_AringDrops gr_Akind gr_Abeside gr_AbesideBits nw_Aheight nw_Adrops ss_Astate ss_Awaiting : Nat) (m_ringCell : (Int → Int)) (m_ringDrops : (Int → Int)) (m_rings : Int) (gr_rows : Int) (gr_columns : Int) (gr_cells : Int) (gr_kind : (Int → Int)) (gr_beside : (Int → Int)) (gr_besideBits : (Int → Int64)) (nw_height : (Int → Int)) (nw_drops : (Int → Int)) (nw_hours : Int) (nw_restless : Int64) (ss_state : (Int → Int)) (ss_waiting : (Int → Int)) (ss_waits : Int) (ss_cells : Int) (ss_many : Int) (x1 : Int) (x2 : Int) (h_m_ringCell : z_r m_ringCell) (h_m_ringDrops : z_r m_ringDrops) (h_m_rings : z_n m_rings) (h_gr_rows : z_n gr_rows) (h_gr_columns : z_n gr_columns) (h_gr_cells : z_n gr_cells) (h_gr_kind : z_r gr_kind) (h_gr_beside : z_r gr_beside) (h_nw_height : z_r nw_height) (h_nw_drops : z_r nw_drops) (h_nw_hours : z_n nw_hours) (h_ss_state : z_r ss_state) (h_ss_waiting : z_r ss_waiting) (h_ss_waits : z_n ss_waits) (h_ss_cells : z_n ss_cells) (h_ss_many : z_n ss_many) (h_x1 : z_n x1) (h_x2 : z_n x2) (rr : Int) (q_ss_state : (Int → Int)) (q_ss_waiting : (Int → Int)) (q_ss_waits : Int) (q_ss_cells : Int) (q_ss_many : Int) (hm : m_X5_cell N gr_cells gr_kind gr_beside nw_height nw_drops ss_state ss_waiting ss_waits ss_cells ss_many x1 x2 = some (rr, q_ss_state, q_ss_waiting, q_ss_waits, q_ss_cells, q_ss_many)) : z_M l G yX5_cell cX5_cell 3 (some .int) (k2_rm 3 72) [.ref m_o, z_i x1, z_i x2] ([(m_o, z_o 5 [.ref tx_o, .ref gr_o, .ref nw_o, .ref og_o, .ref la_o, .ref ss_o, .ref un_o, .ref kp_o, .ref m_AringCell, .ref m_AringDrops, z_i m_rings]), (m_AringCell, z_a G.2.1 6 m_ringCell), (m_AringDrops, z_a G.2.1 6 m_ringDrops), (gr_o, z_o 0 [z_i gr_rows, z_i gr_columns, z_i gr_cells, .ref gr_Akind, .ref gr_Abeside, .ref gr_AbesideBits]), (gr_Akind, z_a G.2.1 36 gr_kind), (gr_Abeside, z_a G.2.1 144 gr_beside), (gr_AbesideBits, z_l G.2.2.1 36 gr_besideBits), (nw_o, z_o 4 [.ref nw_Aheight, .ref nw_Adrops, z_i nw_hours, .long nw_restless]), (nw_Aheight, z_a G.2.1 36 nw_height), (nw_Adrops, z_a G.2.1 36 nw_drops), (ss_o, z_o 2 [.ref ss_Astate, .ref ss_Awaiting, z_i ss_waits, z_i ss_cells, z_i ss_many]), (ss_Astate, z_a G.2.1 36 ss_state), (ss_Awaiting, z_a G.2.1 36 ss_waiting)]) 0 0 (fun v w => v = some (z_i rr) ∧ w = [(m_o, z_o 5 [.ref tx_o, .ref gr_o, .ref nw_o, .ref og_o, .ref la_o, .ref ss_o, .ref un_o, .ref kp_o, .ref m_AringCell, .ref m_AringDrops, z_i m_rings]), (m_AringCell, z_a G.2.1 6 m_ringCell), (m_AringDrops, z_a G.2.1 6 m_ringDrops), (gr_o, z_o 0 [z_i gr_rows, z_i gr_columns, z_i gr_cells, .ref gr_Akind, .ref gr_Abeside, .ref gr_AbesideBits]), (gr_Akind, z_a G.2.1 36 gr_kind), (gr_Abeside, z_a G.2.1 144 gr_beside), (gr_AbesideBits, z_l G.2.2.1 36 gr_besideBits), (nw_o, z_o 4 [.ref nw_Aheight, .ref nw_Adrops, z_i nw_hours, .long nw_restless]), (nw_Aheight, z_a G.2.1 36 nw_height), (nw_Adrops, z_a G.2.1 36 nw_drops), (ss_o, z_o 2 [.ref ss_Astate, .ref ss_Awaiting, z_i q_ss_waits, z_i q_ss_cells, z_i q_ss_many]), (ss_Astate, z_a G.2.1 36 q_ss_state), (ss_Awaiting, z_a G.2.1 36 q_ss_waiting)] ∧ z_n rr ∧ z_r q_ss_state ∧ z_r q_ss_waiting ∧ z_n q_ss_waits ∧ z_n q_ss_cells ∧ z_n q_ss_many ∧ True) := by
  unfold m_X5_cell at hm
  refine z_M.intro (by decide +kernel) (Nat.le_of_ble_eq_true rfl) (L := [(0, .ref m_o), (1, z_i x1), (2, z_i x2)]) rfl (fun X C E => ?_)
  refine z_aload_n C dX5_cell_0 0 rfl ?_
  refine z_get C zf_X5_19 dX5_cell_1 0 rfl rfl ?_
  refine z_iload_n C dX5_cell_4 1 rfl ?_
  obtain ⟨r1, k2, hm⟩ := z_b1s hm
  refine z_callVi C (k_X0_holds l G N gr_o gr_Akind gr_Abeside gr_AbesideBits gr_rows gr_columns gr_cells gr_kind gr_beside gr_besideBits x1 h_gr_rows h_gr_columns h_gr_cells h_gr_kind h_gr_beside h_x1 r1 k2) zv_X0_holds zl_X5_96 dX5_cell_5 [3, 4, 5, 6] rfl rfl rfl (ws' := [(m_o, z_o 5 [.ref tx_o, .ref gr_o, .ref nw_o, .ref og_o, .ref la_o, .ref ss_o, .ref un_o, .ref kp_o, .ref m_AringCell, .ref m_AringDrops, z_i m_rings]), (m_AringCell, z_a G.2.1 6 m_ringCell), (m_AringDrops, z_a G.2.1 6 m_ringDrops), (gr_o, z_o 0 [z_i gr_rows, z_i gr_columns, z_i gr_cells, .ref gr_Akind, .ref gr_Abeside, .ref gr_AbesideBits]), (gr_Akind, z_a G.2.1 36 gr_kind), (gr_Abeside, z_a G.2.1 144 gr_beside), (gr_AbesideBits, z_l G.2.2.1 36 gr_besideBits), (nw_o, z_o 4 [.ref nw_Aheight, .ref nw_Adrops, z_i nw_hours, .long nw_restless]), (nw_Aheight, z_a G.2.1 36 nw_height), (nw_Adrops, z_a G.2.1 36 nw_drops), (ss_o, z_o 2 [.ref ss_Astate, .ref ss_Awaiting, z_i ss_waits, z_i ss_cells, z_i ss_many]), (ss_Astate, z_a G.2.1 36 ss_state), (ss_Awaiting, z_a G.2.1 36 ss_waiting)]) rfl 3 rfl rfl rfl [] rfl (Nat.le_of_ble_eq_true rfl) ⟨Nat.le_of_ble_eq_true rfl, Nat.le_of_ble_eq_true rfl⟩ ⟨rfl, rfl⟩ ⟨Nat.zero_le _, Nat.zero_le _⟩ (fun hF => ?_)
  obtain ⟨hb_r1, -⟩ := hF
  refine z_if_eq (tgt := 20) C (z_n01 hb_r1) dX5_cell_8 (by decide) (fun c3 => ?_) (fun c3 => ?_)
  · have hm := z_pos c3 hm
    refine z_iconst C dX5_cell_20 ?_
    cases hm
    exact z_iret C E dX5_cell_21 ⟨rfl, rfl, (z_k (-1) rfl), h_ss_state, h_ss_waiting, h_ss_waits, h_ss_cells, h_ss_many, trivial⟩
  · have hm := z_neg c3 hm
    refine z_iload_n C dX5_cell_11 2 rfl ?_
    refine z_iconst C dX5_cell_12 ?_
    refine z_iconst C dX5_cell_13 ?_
    obtain ⟨r4, k5, hm⟩ := z_b1s hm
    refine z_callSi C (k_X5_isFrom l G N x2 0 5 h_x2 (z_k 0 rfl) (z_k 5 rfl) r4 k5) zs_X5_isFrom zl_X5_100 dX5_cell_14 [] rfl rfl rfl (ws' := [(m_o, z_o 5 [.ref tx_o, .ref gr_o, .ref nw_o, .ref og_o, .ref la_o, .ref ss_o, .ref un_o, .ref kp_o, .ref m_AringCell, .ref m_AringDrops, z_i m_rings]), (m_AringCell, z_a G.2.1 6 m_ringCell), (m_AringDrops, z_a G.2.1 6 m_ringDrops), (gr_o, z_o 0 [z_i gr_rows, z_i gr_columns, z_i gr_cells, .ref gr_Akind, .ref gr_Abeside, .ref gr_AbesideBits]), (gr_Akind, z_a G.2.1 36 gr_kind), (gr_Abeside, z_a G.2.1 144 gr_beside), (gr_AbesideBits, z_l G.2.2.1 36 gr_besideBits), (nw_o, z_o 4 [.ref nw_Aheight, .ref nw_Adrops, z_i nw_hours, .long nw_restless]), (nw_Aheight, z_a G.2.1 36 nw_height), (nw_Adrops, z_a G.2.1 36 nw_drops), (ss_o, z_o 2 [.ref ss_Astate, .ref ss_Awaiting, z_i ss_waits, z_i ss_cells, z_i ss_many]), (ss_Astate, z_a G.2.1 36 ss_state), (ss_Awaiting, z_a G.2.1 36 ss_waiting)]) rfl rfl [] rfl (Nat.le_of_ble_eq_true rfl) ⟨Nat.le_of_ble_eq_true rfl, Nat.le_of_ble_eq_true rfl⟩ ⟨rfl, rfl⟩ ⟨Nat.zero_le _, Nat.zero_le _⟩ (fun hF => ?_)
    obtain ⟨hb_r4, -⟩ := hF
    refine z_if_ne (tgt := 22) C (z_n01 hb_r4) dX5_cell_17 (by decide) (fun c6 => ?_) (fun c6 => ?_)
    · have hm := z_pos c6 hm
      refine z_iload_n C dX5_cell_22 2 rfl ?_
      refine z_if_ne (tgt := 36) C h_x2 dX5_cell_23 (by decide) (fun c7 => ?_) (fun c7 => ?_)
      · have hm := z_pos c7 hm
        refine z_iload_n C dX5_cell_36 2 rfl ?_
        refine z_iconst C dX5_cell_37 ?_
        refine z_icmp_ne (tgt := 51) C h_x2 (z_k 1 rfl) dX5_cell_38 (by decide) (fun c8 => ?_) (fun c8 => ?_)
        · have hm := z_pos c8 hm
          refine z_iload_n C dX5_cell_51 2 rfl ?_
          refine z_iconst C dX5_cell_52 ?_
          refine z_icmp_ne (tgt := 66) C h_x2 (z_k 2 rfl) dX5_cell_53 (by decide) (fun c9 => ?_) (fun c9 => ?_)
          · have hm := z_pos c9 hm
            refine z_aload_n C dX5_cell_66 0 rfl ?_
            refine z_get C zf_X5_39 dX5_cell_67 0 rfl rfl ?_
            refine z_aload_n C dX5_cell_70 0 rfl ?_
            refine z_get C zf_X5_19 dX5_cell_71 0 rfl rfl ?_
            refine z_aload_n C dX5_cell_74 0 rfl ?_
            refine z_get C zf_X5_26 dX5_cell_75 0 rfl rfl ?_
            obtain ⟨ss_state_10, ss_waiting_11, ss_waits_12, ss_cells_13, ss_many_14, k15, hm⟩ := z_b5s hm
            refine z_callVv C (k_X2_map l G N ss_o ss_Astate ss_Awaiting gr_o gr_Akind gr_Abeside gr_AbesideBits nw_o nw_Aheight nw_Adrops ss_state ss_waiting ss_waits ss_cells ss_many gr_rows gr_columns gr_cells gr_kind gr_beside gr_besideBits nw_height nw_drops nw_hours nw_restless h_ss_state h_ss_waiting h_ss_waits h_ss_cells h_ss_many h_gr_rows h_gr_columns h_gr_cells h_gr_kind h_gr_beside h_nw_height h_nw_drops h_nw_hours ss_state_10 ss_waiting_11 ss_waits_12 ss_cells_13 ss_many_14 k15) zv_X2_map zl_X5_113 dX5_cell_78 [10, 11, 12, 3, 4, 5, 6, 7, 8, 9] rfl rfl rfl (ws' := [(m_o, z_o 5 [.ref tx_o, .ref gr_o, .ref nw_o, .ref og_o, .ref la_o, .ref ss_o, .ref un_o, .ref kp_o, .ref m_AringCell, .ref m_AringDrops, z_i m_rings]), (m_AringCell, z_a G.2.1 6 m_ringCell), (m_AringDrops, z_a G.2.1 6 m_ringDrops), (gr_o, z_o 0 [z_i gr_rows, z_i gr_columns, z_i gr_cells, .ref gr_Akind, .ref gr_Abeside, .ref gr_AbesideBits]), (gr_Akind, z_a G.2.1 36 gr_kind), (gr_Abeside, z_a G.2.1 144 gr_beside), (gr_AbesideBits, z_l G.2.2.1 36 gr_besideBits), (nw_o, z_o 4 [.ref nw_Aheight, .ref nw_Adrops, z_i nw_hours, .long nw_restless]), (nw_Aheight, z_a G.2.1 36 nw_height), (nw_Adrops, z_a G.2.1 36 nw_drops), (ss_o, z_o 2 [.ref ss_Astate, .ref ss_Awaiting, z_i ss_waits_12, z_i ss_cells_13, z_i ss_many_14]), (ss_Astate, z_a G.2.1 36 ss_state_10), (ss_Awaiting, z_a G.2.1 36 ss_waiting_11)]) rfl 10 rfl rfl rfl [] rfl (Nat.le_of_ble_eq_true rfl) ⟨Nat.le_of_ble_eq_true rfl, Nat.le_of_ble_eq_true rfl⟩ ⟨rfl, rfl⟩ ⟨Nat.zero_le _, Nat.zero_le _⟩ (fun hF => ?_)
            obtain ⟨h_ss_state_10, h_ss_waiting_11, h_ss_waits_12, h_ss_cells_13, h_ss_many_14, -⟩ := hF
            refine z_iload_n C dX5_cell_81 2 rfl ?_
            refine z_iconst C dX5_cell_82 ?_
            refine z_icmp_ne (tgt := 95) C h_x2 (z_k 3 rfl) dX5_cell_83 (by decide) (fun c16 => ?_) (fun c16 => ?_)
            · have hm := z_pos c16 hm
              refine z_iload_n C dX5_cell_95 2 rfl ?_
              refine z_iconst C dX5_cell_96 ?_
              refine z_icmp_ne (tgt := 111) C h_x2 (z_k 4 rfl) dX5_cell_97 (by decide) (fun c17 => ?_) (fun c17 => ?_)
              · have hm := z_pos c17 hm
                refine z_aload_n C dX5_cell_111 0 rfl ?_
                refine z_get C zf_X5_39 dX5_cell_112 0 rfl rfl ?_
                refine z_iload_n C dX5_cell_115 1 rfl ?_
                refine z_aload_n C dX5_cell_116 0 rfl ?_
                refine z_get C zf_X5_26 dX5_cell_117 0 rfl rfl ?_
                obtain ⟨r18, k19, hm⟩ := z_b1s hm
                refine z_callVi C (k_X2_depthAt l G N ss_o ss_Astate ss_Awaiting nw_o nw_Aheight nw_Adrops ss_state_10 ss_waiting_11 ss_waits_12 ss_cells_13 ss_many_14 nw_height nw_drops nw_hours nw_restless x1 h_ss_state_10 h_ss_waiting_11 h_ss_waits_12 h_ss_cells_13 h_ss_many_14 h_nw_height h_nw_drops h_nw_hours h_x1 r18 k19) zv_X2_depthAt zl_X5_124 dX5_cell_120 [10, 11, 12, 7, 8, 9] rfl rfl rfl (ws' := [(m_o, z_o 5 [.ref tx_o, .ref gr_o, .ref nw_o, .ref og_o, .ref la_o, .ref ss_o, .ref un_o, .ref kp_o, .ref m_AringCell, .ref m_AringDrops, z_i m_rings]), (m_AringCell, z_a G.2.1 6 m_ringCell), (m_AringDrops, z_a G.2.1 6 m_ringDrops), (gr_o, z_o 0 [z_i gr_rows, z_i gr_columns, z_i gr_cells, .ref gr_Akind, .ref gr_Abeside, .ref gr_AbesideBits]), (gr_Akind, z_a G.2.1 36 gr_kind), (gr_Abeside, z_a G.2.1 144 gr_beside), (gr_AbesideBits, z_l G.2.2.1 36 gr_besideBits), (nw_o, z_o 4 [.ref nw_Aheight, .ref nw_Adrops, z_i nw_hours, .long nw_restless]), (nw_Aheight, z_a G.2.1 36 nw_height), (nw_Adrops, z_a G.2.1 36 nw_drops), (ss_o, z_o 2 [.ref ss_Astate, .ref ss_Awaiting, z_i ss_waits_12, z_i ss_cells_13, z_i ss_many_14]), (ss_Astate, z_a G.2.1 36 ss_state_10), (ss_Awaiting, z_a G.2.1 36 ss_waiting_11)]) rfl 10 rfl rfl rfl [] rfl (Nat.le_of_ble_eq_true rfl) ⟨Nat.le_of_ble_eq_true rfl, Nat.le_of_ble_eq_true rfl⟩ ⟨rfl, rfl⟩ ⟨Nat.zero_le _, Nat.zero_le _⟩ (fun hF => ?_)
                obtain ⟨h_r18, -⟩ := hF
                cases hm
                exact z_iret C E dX5_cell_123 ⟨rfl, rfl, h_r18, h_ss_state_10, h_ss_waiting_11, h_ss_waits_12, h_ss_cells_13, h_ss_many_14, trivial⟩
              · have hm := z_neg c17 hm
                refine z_aload_n C dX5_cell_100 0 rfl ?_
                refine z_get C zf_X5_39 dX5_cell_101 0 rfl rfl ?_
                refine z_iload_n C dX5_cell_104 1 rfl ?_
                obtain ⟨r20, k21, hm⟩ := z_b1s hm
                refine z_callVi C (k_X2_sizeAt l G N ss_o ss_Astate ss_Awaiting ss_state_10 ss_waiting_11 ss_waits_12 ss_cells_13 ss_many_14 x1 h_ss_state_10 h_ss_waiting_11 h_ss_waits_12 h_ss_cells_13 h_ss_many_14 h_x1 r20 k21) zv_X2_sizeAt zl_X5_121 dX5_cell_105 [10, 11, 12] rfl rfl rfl (ws' := [(m_o, z_o 5 [.ref tx_o, .ref gr_o, .ref nw_o, .ref og_o, .ref la_o, .ref ss_o, .ref un_o, .ref kp_o, .ref m_AringCell, .ref m_AringDrops, z_i m_rings]), (m_AringCell, z_a G.2.1 6 m_ringCell), (m_AringDrops, z_a G.2.1 6 m_ringDrops), (gr_o, z_o 0 [z_i gr_rows, z_i gr_columns, z_i gr_cells, .ref gr_Akind, .ref gr_Abeside, .ref gr_AbesideBits]), (gr_Akind, z_a G.2.1 36 gr_kind), (gr_Abeside, z_a G.2.1 144 gr_beside), (gr_AbesideBits, z_l G.2.2.1 36 gr_besideBits), (nw_o, z_o 4 [.ref nw_Aheight, .ref nw_Adrops, z_i nw_hours, .long nw_restless]), (nw_Aheight, z_a G.2.1 36 nw_height), (nw_Adrops, z_a G.2.1 36 nw_drops), (ss_o, z_o 2 [.ref ss_Astate, .ref ss_Awaiting, z_i ss_waits_12, z_i ss_cells_13, z_i ss_many_14]), (ss_Astate, z_a G.2.1 36 ss_state_10), (ss_Awaiting, z_a G.2.1 36 ss_waiting_11)]) rfl 10 rfl rfl rfl [] rfl (Nat.le_of_ble_eq_true rfl) ⟨Nat.le_of_ble_eq_true rfl, Nat.le_of_ble_eq_true rfl⟩ ⟨rfl, rfl⟩ ⟨Nat.zero_le _, Nat.zero_le _⟩ (fun hF => ?_)
                obtain ⟨h_r20, -⟩ := hF
                refine z_goto (tgt := 123) C dX5_cell_108 (by decide) ?_
                cases hm
                exact z_iret C E dX5_cell_123 ⟨rfl, rfl, h_r20, h_ss_state_10, h_ss_waiting_11, h_ss_waits_12, h_ss_cells_13, h_ss_many_14, trivial⟩
            · have hm := z_neg c16 hm
              refine z_aload_n C dX5_cell_86 0 rfl ?_
              refine z_get C zf_X5_39 dX5_cell_87 0 rfl rfl ?_
              refine z_iload_n C dX5_cell_90 1 rfl ?_
              obtain ⟨r22, k23, hm⟩ := z_b1s hm
              refine z_callVi C (k_X2_stateOf l G N ss_o ss_Astate ss_Awaiting ss_state_10 ss_waiting_11 ss_waits_12 ss_cells_13 ss_many_14 x1 h_ss_state_10 h_ss_waiting_11 h_ss_waits_12 h_ss_cells_13 h_ss_many_14 h_x1 r22 k23) zv_X2_stateOf zl_X5_117 dX5_cell_91 [10, 11, 12] rfl rfl rfl (ws' := [(m_o, z_o 5 [.ref tx_o, .ref gr_o, .ref nw_o, .ref og_o, .ref la_o, .ref ss_o, .ref un_o, .ref kp_o, .ref m_AringCell, .ref m_AringDrops, z_i m_rings]), (m_AringCell, z_a G.2.1 6 m_ringCell), (m_AringDrops, z_a G.2.1 6 m_ringDrops), (gr_o, z_o 0 [z_i gr_rows, z_i gr_columns, z_i gr_cells, .ref gr_Akind, .ref gr_Abeside, .ref gr_AbesideBits]), (gr_Akind, z_a G.2.1 36 gr_kind), (gr_Abeside, z_a G.2.1 144 gr_beside), (gr_AbesideBits, z_l G.2.2.1 36 gr_besideBits), (nw_o, z_o 4 [.ref nw_Aheight, .ref nw_Adrops, z_i nw_hours, .long nw_restless]), (nw_Aheight, z_a G.2.1 36 nw_height), (nw_Adrops, z_a G.2.1 36 nw_drops), (ss_o, z_o 2 [.ref ss_Astate, .ref ss_Awaiting, z_i ss_waits_12, z_i ss_cells_13, z_i ss_many_14]), (ss_Astate, z_a G.2.1 36 ss_state_10), (ss_Awaiting, z_a G.2.1 36 ss_waiting_11)]) rfl 10 rfl rfl rfl [] rfl (Nat.le_of_ble_eq_true rfl) ⟨Nat.le_of_ble_eq_true rfl, Nat.le_of_ble_eq_true rfl⟩ ⟨rfl, rfl⟩ ⟨Nat.zero_le _, Nat.zero_le _⟩ (fun hF => ?_)
              obtain ⟨h_r22, -⟩ := hF
              cases hm
              exact z_iret C E dX5_cell_94 ⟨rfl, rfl, h_r22, h_ss_state_10, h_ss_waiting_11, h_ss_waits_12, h_ss_cells_13, h_ss_many_14, trivial⟩
          · have hm := z_neg c9 hm
            refine z_aload_n C dX5_cell_56 0 rfl ?_
            refine z_get C zf_X5_26 dX5_cell_57 0 rfl rfl ?_
            refine z_get C zf_X5_110 dX5_cell_60 7 rfl rfl ?_
            refine z_iload_n C dX5_cell_63 1 rfl ?_
            obtain ⟨c24, hm⟩ := z_chk_some hm
            refine z_iald C dX5_cell_64 9 rfl c24 h_x1 ?_
            cases hm
            exact z_iret C E dX5_cell_65 ⟨rfl, rfl, (h_nw_drops _), h_ss_state, h_ss_waiting, h_ss_waits, h_ss_cells, h_ss_many, trivial⟩
        · have hm := z_neg c8 hm
          refine z_aload_n C dX5_cell_41 0 rfl ?_
          refine z_get C zf_X5_19 dX5_cell_42 0 rfl rfl ?_
          refine z_get C zf_X5_107 dX5_cell_45 3 rfl rfl ?_
          refine z_iload_n C dX5_cell_48 1 rfl ?_
          obtain ⟨c25, hm⟩ := z_chk_some hm
          refine z_iald C dX5_cell_49 4 rfl c25 h_x1 ?_
          cases hm
          exact z_iret C E dX5_cell_50 ⟨rfl, rfl, (h_gr_kind _), h_ss_state, h_ss_waiting, h_ss_waits, h_ss_cells, h_ss_many, trivial⟩
      · have hm := z_neg c7 hm
        refine z_aload_n C dX5_cell_26 0 rfl ?_
        refine z_get C zf_X5_26 dX5_cell_27 0 rfl rfl ?_
        refine z_get C zf_X5_104 dX5_cell_30 7 rfl rfl ?_
        refine z_iload_n C dX5_cell_33 1 rfl ?_
        obtain ⟨c26, hm⟩ := z_chk_some hm
        refine z_iald C dX5_cell_34 8 rfl c26 h_x1 ?_
        cases hm
        exact z_iret C E dX5_cell_35 ⟨rfl, rfl, (h_nw_height _), h_ss_state, h_ss_waiting, h_ss_waits, h_ss_cells, h_ss_many, trivial⟩
    · have hm := z_neg c6 hm
      refine z_iconst C dX5_cell_20 ?_
      cases hm
      exact z_iret C E dX5_cell_21 ⟨rfl, rfl, (z_k (-1) rfl), h_ss_state, h_ss_waiting, h_ss_waits, h_ss_cells, h_ss_many, trivial⟩
set_option maxRecDepth 100000 in
theorem k_X1_dropOldest (l : Launch) (G : z_G) (N : Nat) (t_o t_Aheights t_Adrops t_Ahours : Nat) (t_heights : (Int → Int)) (t_drops : (Int → Int)) (t_hours : (Int → Int)) (t_many : Int) (h_t_heights : z_r t_heights) (h_t_drops : z_r t_drops) (h_t_hours : z_r t_hours) (h_t_many : z_n t_many) (q_t_heights : (Int → Int)) (q_t_drops : (Int → Int)) (q_t_hours : (Int → Int)) (q_t_many : Int) (hm : m_X1_dropOldest N t_heights t_drops t_hours t_many = some (q_t_heights, q_t_drops, q_t_hours, q_t_many)) : z_M l G yX1_dropOldest cX1_dropOldest 1 none (k2_rm 1 26) [.ref t_o] ([(t_o, z_o 1 [.ref t_Aheights, .ref t_Adrops, .ref t_Ahours, z_i t_many]), (t_Aheights, z_a G.2.1 288 t_heights), (t_Adrops, z_a G.2.1 288 t_drops), (t_Ahours, z_a G.2.1 8 t_hours)]) 0 0 (fun v w => v = none ∧ w = [(t_o, z_o 1 [.ref t_Aheights, .ref t_Adrops, .ref t_Ahours, z_i q_t_many]), (t_Aheights, z_a G.2.1 288 q_t_heights), (t_Adrops, z_a G.2.1 288 q_t_drops), (t_Ahours, z_a G.2.1 8 q_t_hours)] ∧ z_r q_t_heights ∧ z_r q_t_drops ∧ z_r q_t_hours ∧ z_n q_t_many ∧ True) := by
  unfold m_X1_dropOldest at hm
  refine z_M.intro (by decide +kernel) (Nat.le_of_ble_eq_true rfl) (L := [(0, .ref t_o)]) rfl (fun X C E => ?_)
  refine z_aload_n C dX1_dropOldest_0 0 rfl ?_
  refine z_bipush C dX1_dropOldest_1 (by decide) ?_
  refine z_puti C zf_X1_21 dX1_dropOldest_3 0 rfl rfl (ws' := [(t_o, z_o 1 [.ref t_Aheights, .ref t_Adrops, .ref t_Ahours, z_i 7]), (t_Aheights, z_a G.2.1 288 t_heights), (t_Adrops, z_a G.2.1 288 t_drops), (t_Ahours, z_a G.2.1 8 t_hours)]) rfl ?_
  refine z_aload_n C dX1_dropOldest_6 0 rfl ?_
  refine z_get C zf_X1_9 dX1_dropOldest_7 0 rfl rfl ?_
  refine z_bipush C dX1_dropOldest_10 (by decide) ?_
  refine z_aload_n C dX1_dropOldest_12 0 rfl ?_
  refine z_get C zf_X1_9 dX1_dropOldest_13 0 rfl rfl ?_
  refine z_iconst C dX1_dropOldest_16 ?_
  refine z_aload_n C dX1_dropOldest_17 0 rfl ?_
  refine z_get C zf_X1_21 dX1_dropOldest_18 0 rfl rfl ?_
  refine z_bipush C dX1_dropOldest_21 (by decide) ?_
  obtain ⟨c1, hm⟩ := z_chk_some hm
  refine z_imul C dX1_dropOldest_23 ?_
  obtain ⟨c2, hm⟩ := z_chk_some hm
  refine z_copyi C zl_X1_33 z_ac1 z_ac2 z_ac3 dX1_dropOldest_24 1 1 rfl rfl c2 (z_k 36 rfl) (z_k 0 rfl) c1 ⟨Nat.le_of_ble_eq_true rfl, Nat.le_of_ble_eq_true rfl⟩ (ws' := [(t_o, z_o 1 [.ref t_Aheights, .ref t_Adrops, .ref t_Ahours, z_i 7]), (t_Aheights, z_a G.2.1 288 (z_cpy t_heights t_heights 36 0 (7 * 36))), (t_Adrops, z_a G.2.1 288 t_drops), (t_Ahours, z_a G.2.1 8 t_hours)]) rfl ?_
  refine z_aload_n C dX1_dropOldest_27 0 rfl ?_
  refine z_get C zf_X1_15 dX1_dropOldest_28 0 rfl rfl ?_
  refine z_bipush C dX1_dropOldest_31 (by decide) ?_
  refine z_aload_n C dX1_dropOldest_33 0 rfl ?_
  refine z_get C zf_X1_15 dX1_dropOldest_34 0 rfl rfl ?_
  refine z_iconst C dX1_dropOldest_37 ?_
  refine z_aload_n C dX1_dropOldest_38 0 rfl ?_
  refine z_get C zf_X1_21 dX1_dropOldest_39 0 rfl rfl ?_
  refine z_bipush C dX1_dropOldest_42 (by decide) ?_
  obtain ⟨c3, hm⟩ := z_chk_some hm
  refine z_imul C dX1_dropOldest_44 ?_
  obtain ⟨c4, hm⟩ := z_chk_some hm
  refine z_copyi C zl_X1_33 z_ac1 z_ac2 z_ac3 dX1_dropOldest_45 2 2 rfl rfl c4 (z_k 36 rfl) (z_k 0 rfl) c3 ⟨Nat.le_of_ble_eq_true rfl, Nat.le_of_ble_eq_true rfl⟩ (ws' := [(t_o, z_o 1 [.ref t_Aheights, .ref t_Adrops, .ref t_Ahours, z_i 7]), (t_Aheights, z_a G.2.1 288 (z_cpy t_heights t_heights 36 0 (7 * 36))), (t_Adrops, z_a G.2.1 288 (z_cpy t_drops t_drops 36 0 (7 * 36))), (t_Ahours, z_a G.2.1 8 t_hours)]) rfl ?_
  refine z_aload_n C dX1_dropOldest_48 0 rfl ?_
  refine z_get C zf_X1_18 dX1_dropOldest_49 0 rfl rfl ?_
  refine z_iconst C dX1_dropOldest_52 ?_
  refine z_aload_n C dX1_dropOldest_53 0 rfl ?_
  refine z_get C zf_X1_18 dX1_dropOldest_54 0 rfl rfl ?_
  refine z_iconst C dX1_dropOldest_57 ?_
  refine z_aload_n C dX1_dropOldest_58 0 rfl ?_
  refine z_get C zf_X1_21 dX1_dropOldest_59 0 rfl rfl ?_
  obtain ⟨c5, hm⟩ := z_chk_some hm
  refine z_copyi C zl_X1_33 z_ac1 z_ac2 z_ac3 dX1_dropOldest_62 3 3 rfl rfl c5 (z_k 1 rfl) (z_k 0 rfl) (z_k 7 rfl) ⟨Nat.le_of_ble_eq_true rfl, Nat.le_of_ble_eq_true rfl⟩ (ws' := [(t_o, z_o 1 [.ref t_Aheights, .ref t_Adrops, .ref t_Ahours, z_i 7]), (t_Aheights, z_a G.2.1 288 (z_cpy t_heights t_heights 36 0 (7 * 36))), (t_Adrops, z_a G.2.1 288 (z_cpy t_drops t_drops 36 0 (7 * 36))), (t_Ahours, z_a G.2.1 8 (z_cpy t_hours t_hours 1 0 7))]) rfl ?_
  cases hm
  exact z_vret C E dX1_dropOldest_65 ⟨rfl, rfl, (z_r_cpy h_t_heights h_t_heights), (z_r_cpy h_t_drops h_t_drops), (z_r_cpy h_t_hours h_t_hours), (z_k 7 rfl), trivial⟩
set_option maxRecDepth 100000 in
theorem k_X1_push (l : Launch) (G : z_G) (N : Nat) (t_o t_Aheights t_Adrops t_Ahours w_o w_Aheight w_Adrops : Nat) (t_heights : (Int → Int)) (t_drops : (Int → Int)) (t_hours : (Int → Int)) (t_many : Int) (w_height : (Int → Int)) (w_drops : (Int → Int)) (w_hours : Int) (w_restless : Int64) (h_t_heights : z_r t_heights) (h_t_drops : z_r t_drops) (h_t_hours : z_r t_hours) (h_t_many : z_n t_many) (h_w_height : z_r w_height) (h_w_drops : z_r w_drops) (h_w_hours : z_n w_hours) (q_t_heights : (Int → Int)) (q_t_drops : (Int → Int)) (q_t_hours : (Int → Int)) (q_t_many : Int) (hm : m_X1_push N t_heights t_drops t_hours t_many w_height w_drops w_hours = some (q_t_heights, q_t_drops, q_t_hours, q_t_many)) : z_M l G yX1_push cX1_push 2 none (k2_rm 2 46) [.ref t_o, .ref w_o] ([(t_o, z_o 1 [.ref t_Aheights, .ref t_Adrops, .ref t_Ahours, z_i t_many]), (t_Aheights, z_a G.2.1 288 t_heights), (t_Adrops, z_a G.2.1 288 t_drops), (t_Ahours, z_a G.2.1 8 t_hours), (w_o, z_o 4 [.ref w_Aheight, .ref w_Adrops, z_i w_hours, .long w_restless]), (w_Aheight, z_a G.2.1 36 w_height), (w_Adrops, z_a G.2.1 36 w_drops)]) 0 0 (fun v w => v = none ∧ w = [(t_o, z_o 1 [.ref t_Aheights, .ref t_Adrops, .ref t_Ahours, z_i q_t_many]), (t_Aheights, z_a G.2.1 288 q_t_heights), (t_Adrops, z_a G.2.1 288 q_t_drops), (t_Ahours, z_a G.2.1 8 q_t_hours), (w_o, z_o 4 [.ref w_Aheight, .ref w_Adrops, z_i w_hours, .long w_restless]), (w_Aheight, z_a G.2.1 36 w_height), (w_Adrops, z_a G.2.1 36 w_drops)] ∧ z_r q_t_heights ∧ z_r q_t_drops ∧ z_r q_t_hours ∧ z_n q_t_many ∧ True) := by
  unfold m_X1_push at hm
  refine z_M.intro (by decide +kernel) (Nat.le_of_ble_eq_true rfl) (L := [(0, .ref t_o), (1, .ref w_o)]) rfl (fun X C E => ?_)
  refine z_aload_n C dX1_push_0 0 rfl ?_
  refine z_get C zf_X1_21 dX1_push_1 0 rfl rfl ?_
  refine z_bipush C dX1_push_4 (by decide) ?_
  obtain ⟨t_heights_7, t_drops_8, t_hours_9, t_many_10, hj, hm⟩ := z_b4s hm
  have J11 : z_r t_heights_7 → z_r t_drops_8 → z_r t_hours_9 → z_n t_many_10 → z_J X 0 0 ([(t_o, z_o 1 [.ref t_Aheights, .ref t_Adrops, .ref t_Ahours, z_i t_many_10]), (t_Aheights, z_a G.2.1 288 t_heights_7), (t_Adrops, z_a G.2.1 288 t_drops_8), (t_Ahours, z_a G.2.1 8 t_hours_9), (w_o, z_o 4 [.ref w_Aheight, .ref w_Adrops, z_i w_hours, .long w_restless]), (w_Aheight, z_a G.2.1 36 w_height), (w_Adrops, z_a G.2.1 36 w_drops)]) [(0, .ref t_o), (1, .ref w_o)] 13 [] := by
    intro h_t_heights_7 h_t_drops_8 h_t_hours_9 h_t_many_10
    clear hj
    refine z_aload_n C dX1_push_13 0 rfl ?_
    refine z_get C zf_X1_21 dX1_push_14 0 rfl rfl ?_
    refine z_if_lt (tgt := 94) C h_t_many_10 dX1_push_17 (by decide) (fun c12 => ?_) (fun c12 => ?_)
    · have hm := z_pos c12 hm
      cases hm
      exact z_vret C E dX1_push_94 ⟨rfl, rfl, h_t_heights_7, h_t_drops_8, h_t_hours_9, h_t_many_10, trivial⟩
    · have hm := z_neg c12 hm
      refine z_aload_n C dX1_push_20 0 rfl ?_
      refine z_get C zf_X1_21 dX1_push_21 0 rfl rfl ?_
      refine z_bipush C dX1_push_24 (by decide) ?_
      refine z_icmp_ge (tgt := 94) C h_t_many_10 (z_k 8 rfl) dX1_push_26 (by decide) (fun c13 => ?_) (fun c13 => ?_)
      · have hm := z_pos c13 hm
        cases hm
        exact z_vret C E dX1_push_94 ⟨rfl, rfl, h_t_heights_7, h_t_drops_8, h_t_hours_9, h_t_many_10, trivial⟩
      · have hm := z_neg c13 hm
        refine z_aload_n C dX1_push_29 1 rfl ?_
        refine z_get C zf_X1_28 dX1_push_30 4 rfl rfl ?_
        refine z_iconst C dX1_push_33 ?_
        refine z_aload_n C dX1_push_34 0 rfl ?_
        refine z_get C zf_X1_9 dX1_push_35 0 rfl rfl ?_
        refine z_aload_n C dX1_push_38 0 rfl ?_
        refine z_get C zf_X1_21 dX1_push_39 0 rfl rfl ?_
        refine z_bipush C dX1_push_42 (by decide) ?_
        obtain ⟨c14, hm⟩ := z_chk_some hm
        refine z_imul C dX1_push_44 ?_
        refine z_bipush C dX1_push_45 (by decide) ?_
        obtain ⟨c15, hm⟩ := z_chk_some hm
        refine z_copyi C zl_X1_33 z_ac1 z_ac2 z_ac3 dX1_push_47 5 1 rfl rfl c15 (z_k 0 rfl) c14 (z_k 36 rfl) ⟨Nat.le_of_ble_eq_true rfl, Nat.le_of_ble_eq_true rfl⟩ (ws' := [(t_o, z_o 1 [.ref t_Aheights, .ref t_Adrops, .ref t_Ahours, z_i t_many_10]), (t_Aheights, z_a G.2.1 288 (z_cpy w_height t_heights_7 0 (t_many_10 * 36) 36)), (t_Adrops, z_a G.2.1 288 t_drops_8), (t_Ahours, z_a G.2.1 8 t_hours_9), (w_o, z_o 4 [.ref w_Aheight, .ref w_Adrops, z_i w_hours, .long w_restless]), (w_Aheight, z_a G.2.1 36 w_height), (w_Adrops, z_a G.2.1 36 w_drops)]) rfl ?_
        refine z_aload_n C dX1_push_50 1 rfl ?_
        refine z_get C zf_X1_39 dX1_push_51 4 rfl rfl ?_
        refine z_iconst C dX1_push_54 ?_
        refine z_aload_n C dX1_push_55 0 rfl ?_
        refine z_get C zf_X1_15 dX1_push_56 0 rfl rfl ?_
        refine z_aload_n C dX1_push_59 0 rfl ?_
        refine z_get C zf_X1_21 dX1_push_60 0 rfl rfl ?_
        refine z_bipush C dX1_push_63 (by decide) ?_
        obtain ⟨c16, hm⟩ := z_chk_some hm
        refine z_imul C dX1_push_65 ?_
        refine z_bipush C dX1_push_66 (by decide) ?_
        obtain ⟨c17, hm⟩ := z_chk_some hm
        refine z_copyi C zl_X1_33 z_ac1 z_ac2 z_ac3 dX1_push_68 6 2 rfl rfl c17 (z_k 0 rfl) c16 (z_k 36 rfl) ⟨Nat.le_of_ble_eq_true rfl, Nat.le_of_ble_eq_true rfl⟩ (ws' := [(t_o, z_o 1 [.ref t_Aheights, .ref t_Adrops, .ref t_Ahours, z_i t_many_10]), (t_Aheights, z_a G.2.1 288 (z_cpy w_height t_heights_7 0 (t_many_10 * 36) 36)), (t_Adrops, z_a G.2.1 288 (z_cpy w_drops t_drops_8 0 (t_many_10 * 36) 36)), (t_Ahours, z_a G.2.1 8 t_hours_9), (w_o, z_o 4 [.ref w_Aheight, .ref w_Adrops, z_i w_hours, .long w_restless]), (w_Aheight, z_a G.2.1 36 w_height), (w_Adrops, z_a G.2.1 36 w_drops)]) rfl ?_
        refine z_aload_n C dX1_push_71 0 rfl ?_
        refine z_get C zf_X1_18 dX1_push_72 0 rfl rfl ?_
        refine z_aload_n C dX1_push_75 0 rfl ?_
        refine z_get C zf_X1_21 dX1_push_76 0 rfl rfl ?_
        refine z_aload_n C dX1_push_79 1 rfl ?_
        refine z_get C zf_X1_40 dX1_push_80 4 rfl rfl ?_
        obtain ⟨c18, hm⟩ := z_chk_some hm
        refine z_iast C dX1_push_83 3 rfl c18 h_t_many_10 (ws' := [(t_o, z_o 1 [.ref t_Aheights, .ref t_Adrops, .ref t_Ahours, z_i t_many_10]), (t_Aheights, z_a G.2.1 288 (z_cpy w_height t_heights_7 0 (t_many_10 * 36) 36)), (t_Adrops, z_a G.2.1 288 (z_cpy w_drops t_drops_8 0 (t_many_10 * 36) 36)), (t_Ahours, z_a G.2.1 8 (z_up t_hours_9 t_many_10 w_hours)), (w_o, z_o 4 [.ref w_Aheight, .ref w_Adrops, z_i w_hours, .long w_restless]), (w_Aheight, z_a G.2.1 36 w_height), (w_Adrops, z_a G.2.1 36 w_drops)]) rfl ?_
        refine z_aload_n C dX1_push_84 0 rfl ?_
        refine z_dup C rfl dX1_push_85 ?_
        refine z_get C zf_X1_21 dX1_push_86 0 rfl rfl ?_
        refine z_iconst C dX1_push_89 ?_
        obtain ⟨c19, hm⟩ := z_chk_some hm
        refine z_iadd C dX1_push_90 ?_
        refine z_puti C zf_X1_21 dX1_push_91 0 rfl rfl (ws' := [(t_o, z_o 1 [.ref t_Aheights, .ref t_Adrops, .ref t_Ahours, z_i (t_many_10 + 1)]), (t_Aheights, z_a G.2.1 288 (z_cpy w_height t_heights_7 0 (t_many_10 * 36) 36)), (t_Adrops, z_a G.2.1 288 (z_cpy w_drops t_drops_8 0 (t_many_10 * 36) 36)), (t_Ahours, z_a G.2.1 8 (z_up t_hours_9 t_many_10 w_hours)), (w_o, z_o 4 [.ref w_Aheight, .ref w_Adrops, z_i w_hours, .long w_restless]), (w_Aheight, z_a G.2.1 36 w_height), (w_Adrops, z_a G.2.1 36 w_drops)]) rfl ?_
        cases hm
        exact z_vret C E dX1_push_94 ⟨rfl, rfl, (z_r_cpy h_w_height h_t_heights_7), (z_r_cpy h_w_drops h_t_drops_8), (z_r_up h_t_hours_9 h_w_hours), c19, trivial⟩
  replace hm := hj
  clear hj
  refine z_icmp_lt (tgt := 13) C h_t_many (z_k 8 rfl) dX1_push_6 (by decide) (fun c1 => ?_) (fun c1 => ?_)
  · have hm := z_pos c1 hm
    cases hm
    exact J11 h_t_heights h_t_drops h_t_hours h_t_many
  · have hm := z_neg c1 hm
    refine z_aload_n C dX1_push_9 0 rfl ?_
    obtain ⟨t_heights_2, t_drops_3, t_hours_4, t_many_5, k6, hm⟩ := z_b4s hm
    refine z_callVv C (k_X1_dropOldest l G N t_o t_Aheights t_Adrops t_Ahours t_heights t_drops t_hours t_many h_t_heights h_t_drops h_t_hours h_t_many t_heights_2 t_drops_3 t_hours_4 t_many_5 k6) zv_X1_dropOldest zl_X1_25 dX1_push_10 [0, 1, 2, 3] rfl rfl rfl (ws' := [(t_o, z_o 1 [.ref t_Aheights, .ref t_Adrops, .ref t_Ahours, z_i t_many_5]), (t_Aheights, z_a G.2.1 288 t_heights_2), (t_Adrops, z_a G.2.1 288 t_drops_3), (t_Ahours, z_a G.2.1 8 t_hours_4), (w_o, z_o 4 [.ref w_Aheight, .ref w_Adrops, z_i w_hours, .long w_restless]), (w_Aheight, z_a G.2.1 36 w_height), (w_Adrops, z_a G.2.1 36 w_drops)]) rfl 0 rfl rfl rfl [] rfl (Nat.le_of_ble_eq_true rfl) ⟨Nat.le_of_ble_eq_true rfl, Nat.le_of_ble_eq_true rfl⟩ ⟨rfl, rfl⟩ ⟨Nat.zero_le _, Nat.zero_le _⟩ (fun hF => ?_)
    obtain ⟨h_t_heights_2, h_t_drops_3, h_t_hours_4, h_t_many_5, -⟩ := hF
    cases hm
    exact J11 h_t_heights_2 h_t_drops_3 h_t_hours_4 h_t_many_5
set_option maxRecDepth 100000 in
theorem k_X4_pour (l : Launch) (G : z_G) (N : Nat) (t_o t_Aheight t_Adrops g_o g_Akind g_Abeside g_AbesideBits : Nat) (t_height : (Int → Int)) (t_drops : (Int → Int)) (t_hours : Int) (t_restless : Int64) (g_rows : Int) (g_columns : Int) (g_cells : Int) (g_kind : (Int → Int)) (g_beside : (Int → Int)) (g_besideBits : (Int → Int64)) (x2 : Int) (h_t_height : z_r t_height) (h_t_drops : z_r t_drops) (h_t_hours : z_n t_hours) (h_g_rows : z_n g_rows) (h_g_columns : z_n g_columns) (h_g_cells : z_n g_cells) (h_g_kind : z_r g_kind) (h_g_beside : z_r g_beside) (h_x2 : z_n x2) (q_t_drops : (Int → Int)) (q_t_restless : Int64) (hm : m_X4_pour N t_height t_drops t_restless g_cells g_kind g_beside g_besideBits x2 = some (q_t_drops, q_t_restless)) : z_M l G yX4_pour cX4_pour 4 none (k2_rm 5 110) [.ref t_o, .ref g_o, z_i x2] ([(t_o, z_o 4 [.ref t_Aheight, .ref t_Adrops, z_i t_hours, .long t_restless]), (t_Aheight, z_a G.2.1 36 t_height), (t_Adrops, z_a G.2.1 36 t_drops), (g_o, z_o 0 [z_i g_rows, z_i g_columns, z_i g_cells, .ref g_Akind, .ref g_Abeside, .ref g_AbesideBits]), (g_Akind, z_a G.2.1 36 g_kind), (g_Abeside, z_a G.2.1 144 g_beside), (g_AbesideBits, z_l G.2.2.1 36 g_besideBits)]) 0 0 (fun v w => v = none ∧ w = [(t_o, z_o 4 [.ref t_Aheight, .ref t_Adrops, z_i t_hours, .long q_t_restless]), (t_Aheight, z_a G.2.1 36 t_height), (t_Adrops, z_a G.2.1 36 q_t_drops), (g_o, z_o 0 [z_i g_rows, z_i g_columns, z_i g_cells, .ref g_Akind, .ref g_Abeside, .ref g_AbesideBits]), (g_Akind, z_a G.2.1 36 g_kind), (g_Abeside, z_a G.2.1 144 g_beside), (g_AbesideBits, z_l G.2.2.1 36 g_besideBits)] ∧ z_r q_t_drops ∧ True) := by
  unfold m_X4_pour at hm
  refine z_M.intro (by decide +kernel) (Nat.le_of_ble_eq_true rfl) (L := [(0, .ref t_o), (1, .ref g_o), (2, z_i x2)]) rfl (fun X C E => ?_)
  refine z_iconst C dX4_pour_0 ?_
  refine z_istore_n C dX4_pour_1 (by decide) (L' := [(3, z_i 0), (0, .ref t_o), (1, .ref g_o), (2, z_i x2)]) rfl ?_
  obtain ⟨o_t_drops_1, hl, hm⟩ := z_b1s hm
  have JX1 : z_r o_t_drops_1 → z_J X 0 0 ([(t_o, z_o 4 [.ref t_Aheight, .ref t_Adrops, z_i t_hours, .long t_restless]), (t_Aheight, z_a G.2.1 36 t_height), (t_Adrops, z_a G.2.1 36 o_t_drops_1), (g_o, z_o 0 [z_i g_rows, z_i g_columns, z_i g_cells, .ref g_Akind, .ref g_Abeside, .ref g_AbesideBits]), (g_Akind, z_a G.2.1 36 g_kind), (g_Abeside, z_a G.2.1 144 g_beside), (g_AbesideBits, z_l G.2.2.1 36 g_besideBits)]) [(0, .ref t_o), (1, .ref g_o)] 49 [] := by
    intro h_o_t_drops_1
    clear hl
    refine z_aload_n C dX4_pour_49 0 rfl ?_
    refine z_aload_n C dX4_pour_50 1 rfl ?_
    obtain ⟨t_drops_11, t_restless_12, k13, hm⟩ := z_b2s hm
    refine z_callVvd C (k_X4_flow l G N t_o t_Aheight t_Adrops g_o g_Akind g_Abeside g_AbesideBits t_height o_t_drops_1 t_hours t_restless g_rows g_columns g_cells g_kind g_beside g_besideBits h_t_height h_o_t_drops_1 h_t_hours h_g_rows h_g_columns h_g_cells h_g_kind h_g_beside t_drops_11 t_restless_12 k13) zv_X4_flow zl_X4_53 dX4_pour_51 rfl 0 rfl rfl rfl [] rfl (Nat.le_of_ble_eq_true rfl) ⟨Nat.le_of_ble_eq_true rfl, Nat.le_of_ble_eq_true rfl⟩ ⟨rfl, rfl⟩ ⟨Nat.zero_le _, Nat.zero_le _⟩ (fun hF => ?_)
    obtain ⟨h_t_drops_11, -⟩ := hF
    cases hm
    exact z_vret C E dX4_pour_54 ⟨rfl, rfl, h_t_drops_11, trivial⟩
  clear hm
  have L1 : ∀ (n1 : Nat) (v3_1 : Int) (t_drops_1 : (Int → Int)), z_n v3_1 → z_r t_drops_1 → m_X4_pour_l1 N g_cells g_kind x2 n1 v3_1 t_drops_1 = some (o_t_drops_1) → z_J X 0 0 ([(t_o, z_o 4 [.ref t_Aheight, .ref t_Adrops, z_i t_hours, .long t_restless]), (t_Aheight, z_a G.2.1 36 t_height), (t_Adrops, z_a G.2.1 36 t_drops_1), (g_o, z_o 0 [z_i g_rows, z_i g_columns, z_i g_cells, .ref g_Akind, .ref g_Abeside, .ref g_AbesideBits]), (g_Akind, z_a G.2.1 36 g_kind), (g_Abeside, z_a G.2.1 144 g_beside), (g_AbesideBits, z_l G.2.2.1 36 g_besideBits)]) [(0, .ref t_o), (1, .ref g_o), (2, z_i x2), (3, z_i v3_1)] 2 [] := by
    clear hl
    intro n1
    induction n1 with
    | zero =>
      intro v3_1 t_drops_1 h_v3_1 h_t_drops_1 hm
      rw [m_X4_pour_l1] at hm
      cases hm
    | succ n1 ih1 =>
      intro v3_1 t_drops_1 h_v3_1 h_t_drops_1 hm
      rw [m_X4_pour_l1] at hm
      refine z_iload_n C dX4_pour_2 3 rfl ?_
      refine z_aload_n C dX4_pour_3 1 rfl ?_
      refine z_get C zf_X4_38 dX4_pour_4 3 rfl rfl ?_
      refine z_icmp_ge (tgt := 49) C h_v3_1 h_g_cells dX4_pour_7 (by decide) (fun c1 => ?_) (fun c1 => ?_)
      · have hm := z_pos c1 hm
        refine z_sub (L' := [(0, .ref t_o), (1, .ref g_o)]) [0, 1] rfl ?_
        cases hm
        exact JX1 h_t_drops_1
      · have hm := z_neg c1 hm
        refine z_iload_n C dX4_pour_10 3 rfl ?_
        refine z_bipush C dX4_pour_11 (by decide) ?_
        refine z_icmp_ge (tgt := 49) C h_v3_1 (z_k 36 rfl) dX4_pour_13 (by decide) (fun c2 => ?_) (fun c2 => ?_)
        · have hm := z_pos c2 hm
          refine z_sub (L' := [(0, .ref t_o), (1, .ref g_o)]) [0, 1] rfl ?_
          cases hm
          exact JX1 h_t_drops_1
        · have hm := z_neg c2 hm
          refine z_aload_n C dX4_pour_16 1 rfl ?_
          refine z_iload_n C dX4_pour_17 3 rfl ?_
          obtain ⟨r3, k4, hm⟩ := z_b1s hm
          refine z_callVi C (k_X0_takesRain l G N g_o g_Akind g_Abeside g_AbesideBits g_rows g_columns g_cells g_kind g_beside g_besideBits v3_1 h_g_rows h_g_columns h_g_cells h_g_kind h_g_beside h_v3_1 r3 k4) zv_X0_takesRain zl_X4_43 dX4_pour_18 [3, 4, 5, 6] rfl rfl rfl (ws' := [(t_o, z_o 4 [.ref t_Aheight, .ref t_Adrops, z_i t_hours, .long t_restless]), (t_Aheight, z_a G.2.1 36 t_height), (t_Adrops, z_a G.2.1 36 t_drops_1), (g_o, z_o 0 [z_i g_rows, z_i g_columns, z_i g_cells, .ref g_Akind, .ref g_Abeside, .ref g_AbesideBits]), (g_Akind, z_a G.2.1 36 g_kind), (g_Abeside, z_a G.2.1 144 g_beside), (g_AbesideBits, z_l G.2.2.1 36 g_besideBits)]) rfl 3 rfl rfl rfl [] rfl (Nat.le_of_ble_eq_true rfl) ⟨Nat.le_of_ble_eq_true rfl, Nat.le_of_ble_eq_true rfl⟩ ⟨rfl, rfl⟩ ⟨Nat.zero_le _, Nat.zero_le _⟩ (fun hF => ?_)
          obtain ⟨hb_r3, -⟩ := hF
          refine z_if_eq (tgt := 43) C (z_n01 hb_r3) dX4_pour_21 (by decide) (fun c5 => ?_) (fun c5 => ?_)
          · have hm := z_pos c5 hm
            obtain ⟨c6, hm⟩ := z_chk_some hm
            refine z_iinc C dX4_pour_43 3 rfl (by decide) (L' := [(3, z_i (v3_1 + 1)), (0, .ref t_o), (1, .ref g_o), (2, z_i x2)]) rfl ?_
            refine z_goto (tgt := 2) C dX4_pour_46 (by decide) ?_
            refine z_sub (L' := [(0, .ref t_o), (1, .ref g_o), (2, z_i x2), (3, z_i (v3_1 + 1))]) [1, 2, 3, 0] rfl ?_
            exact ih1 (v3_1 + 1) t_drops_1 c6 h_t_drops_1 hm
          · have hm := z_neg c5 hm
            refine z_aload_n C dX4_pour_24 0 rfl ?_
            refine z_get C zf_X4_15 dX4_pour_25 0 rfl rfl ?_
            refine z_iload_n C dX4_pour_28 3 rfl ?_
            refine z_bipush C dX4_pour_29 (by decide) ?_
            refine z_aload_n C dX4_pour_31 0 rfl ?_
            refine z_get C zf_X4_15 dX4_pour_32 0 rfl rfl ?_
            refine z_iload_n C dX4_pour_35 3 rfl ?_
            obtain ⟨c7, hm⟩ := z_chk_some hm
            refine z_iald C dX4_pour_36 2 rfl c7 h_v3_1 ?_
            refine z_iload_n C dX4_pour_37 2 rfl ?_
            obtain ⟨c8, hm⟩ := z_chk_some hm
            refine z_iadd C dX4_pour_38 ?_
            refine z_mmin C (z_k 60 rfl) c8 zl_X4_47 dX4_pour_39 ⟨Nat.le_of_ble_eq_true rfl, Nat.le_of_ble_eq_true rfl⟩ ⟨Nat.zero_le _, Nat.zero_le _⟩ ?_
            obtain ⟨c9, hm⟩ := z_chk_some hm
            refine z_iast C dX4_pour_42 2 rfl c9 h_v3_1 (ws' := [(t_o, z_o 4 [.ref t_Aheight, .ref t_Adrops, z_i t_hours, .long t_restless]), (t_Aheight, z_a G.2.1 36 t_height), (t_Adrops, z_a G.2.1 36 (z_up t_drops_1 v3_1 (z_min 60 ((t_drops_1 v3_1) + x2)))), (g_o, z_o 0 [z_i g_rows, z_i g_columns, z_i g_cells, .ref g_Akind, .ref g_Abeside, .ref g_AbesideBits]), (g_Akind, z_a G.2.1 36 g_kind), (g_Abeside, z_a G.2.1 144 g_beside), (g_AbesideBits, z_l G.2.2.1 36 g_besideBits)]) rfl ?_
            obtain ⟨c10, hm⟩ := z_chk_some hm
            refine z_iinc C dX4_pour_43 3 rfl (by decide) (L' := [(3, z_i (v3_1 + 1)), (0, .ref t_o), (1, .ref g_o), (2, z_i x2)]) rfl ?_
            refine z_goto (tgt := 2) C dX4_pour_46 (by decide) ?_
            refine z_sub (L' := [(0, .ref t_o), (1, .ref g_o), (2, z_i x2), (3, z_i (v3_1 + 1))]) [1, 2, 3, 0] rfl ?_
            exact ih1 (v3_1 + 1) (z_up t_drops_1 v3_1 (z_min 60 ((t_drops_1 v3_1) + x2))) c10 (z_r_up h_t_drops_1 (z_n_min (z_k 60 rfl) c8)) hm
  refine z_sub (L' := [(0, .ref t_o), (1, .ref g_o), (2, z_i x2), (3, z_i 0)]) [1, 2, 3, 0] rfl ?_
  exact L1 N 0 t_drops (z_k 0 rfl) h_t_drops hl
set_option maxRecDepth 100000 in
theorem k_X4_allDrops (l : Launch) (G : z_G) (N : Nat) (t_o t_Aheight t_Adrops g_o g_Akind g_Abeside g_AbesideBits : Nat) (t_height : (Int → Int)) (t_drops : (Int → Int)) (t_hours : Int) (t_restless : Int64) (g_rows : Int) (g_columns : Int) (g_cells : Int) (g_kind : (Int → Int)) (g_beside : (Int → Int)) (g_besideBits : (Int → Int64)) (h_t_height : z_r t_height) (h_t_drops : z_r t_drops) (h_t_hours : z_n t_hours) (h_g_rows : z_n g_rows) (h_g_columns : z_n g_columns) (h_g_cells : z_n g_cells) (h_g_kind : z_r g_kind) (h_g_beside : z_r g_beside) (rr : Int) (hm : m_X4_allDrops N t_drops g_cells = some (rr)) : z_M l G yX4_allDrops cX4_allDrops 4 (some .int) (k2_rm 0 0) [.ref t_o, .ref g_o] ([(t_o, z_o 4 [.ref t_Aheight, .ref t_Adrops, z_i t_hours, .long t_restless]), (t_Aheight, z_a G.2.1 36 t_height), (t_Adrops, z_a G.2.1 36 t_drops), (g_o, z_o 0 [z_i g_rows, z_i g_columns, z_i g_cells, .ref g_Akind, .ref g_Abeside, .ref g_AbesideBits]), (g_Akind, z_a G.2.1 36 g_kind), (g_Abeside, z_a G.2.1 144 g_beside), (g_AbesideBits, z_l G.2.2.1 36 g_besideBits)]) 0 0 (fun v w => v = some (z_i rr) ∧ w = [(t_o, z_o 4 [.ref t_Aheight, .ref t_Adrops, z_i t_hours, .long t_restless]), (t_Aheight, z_a G.2.1 36 t_height), (t_Adrops, z_a G.2.1 36 t_drops), (g_o, z_o 0 [z_i g_rows, z_i g_columns, z_i g_cells, .ref g_Akind, .ref g_Abeside, .ref g_AbesideBits]), (g_Akind, z_a G.2.1 36 g_kind), (g_Abeside, z_a G.2.1 144 g_beside), (g_AbesideBits, z_l G.2.2.1 36 g_besideBits)] ∧ z_n rr ∧ True) := by
  unfold m_X4_allDrops at hm
  refine z_M.intro (by decide +kernel) (Nat.le_of_ble_eq_true rfl) (L := [(0, .ref t_o), (1, .ref g_o)]) rfl (fun X C E => ?_)
  refine z_iconst C dX4_allDrops_0 ?_
  refine z_istore_n C dX4_allDrops_1 (by decide) (L' := [(2, z_i 0), (0, .ref t_o), (1, .ref g_o)]) rfl ?_
  refine z_iconst C dX4_allDrops_2 ?_
  refine z_istore_n C dX4_allDrops_3 (by decide) (L' := [(3, z_i 0), (2, z_i 0), (0, .ref t_o), (1, .ref g_o)]) rfl ?_
  obtain ⟨o2_1, hl, hm⟩ := z_b1s hm
  have JX1 : z_n o2_1 → z_J X 0 0 ([(t_o, z_o 4 [.ref t_Aheight, .ref t_Adrops, z_i t_hours, .long t_restless]), (t_Aheight, z_a G.2.1 36 t_height), (t_Adrops, z_a G.2.1 36 t_drops), (g_o, z_o 0 [z_i g_rows, z_i g_columns, z_i g_cells, .ref g_Akind, .ref g_Abeside, .ref g_AbesideBits]), (g_Akind, z_a G.2.1 36 g_kind), (g_Abeside, z_a G.2.1 144 g_beside), (g_AbesideBits, z_l G.2.2.1 36 g_besideBits)]) [(2, z_i o2_1)] 33 [] := by
    intro h_o2_1
    clear hl
    refine z_iload_n C dX4_allDrops_33 0 rfl ?_
    cases hm
    exact z_iret C E dX4_allDrops_34 ⟨rfl, rfl, h_o2_1, trivial⟩
  clear hm
  have L1 : ∀ (n1 : Nat) (v2_1 : Int) (v3_1 : Int), z_n v2_1 → z_n v3_1 → m_X4_allDrops_l1 N g_cells t_drops n1 v2_1 v3_1 = some (o2_1) → z_J X 0 0 ([(t_o, z_o 4 [.ref t_Aheight, .ref t_Adrops, z_i t_hours, .long t_restless]), (t_Aheight, z_a G.2.1 36 t_height), (t_Adrops, z_a G.2.1 36 t_drops), (g_o, z_o 0 [z_i g_rows, z_i g_columns, z_i g_cells, .ref g_Akind, .ref g_Abeside, .ref g_AbesideBits]), (g_Akind, z_a G.2.1 36 g_kind), (g_Abeside, z_a G.2.1 144 g_beside), (g_AbesideBits, z_l G.2.2.1 36 g_besideBits)]) [(0, .ref t_o), (1, .ref g_o), (2, z_i v2_1), (3, z_i v3_1)] 4 [] := by
    clear hl
    intro n1
    induction n1 with
    | zero =>
      intro v2_1 v3_1 h_v2_1 h_v3_1 hm
      rw [m_X4_allDrops_l1] at hm
      cases hm
    | succ n1 ih1 =>
      intro v2_1 v3_1 h_v2_1 h_v3_1 hm
      rw [m_X4_allDrops_l1] at hm
      refine z_iload_n C dX4_allDrops_4 3 rfl ?_
      refine z_aload_n C dX4_allDrops_5 1 rfl ?_
      refine z_get C zf_X4_38 dX4_allDrops_6 3 rfl rfl ?_
      refine z_icmp_ge (tgt := 33) C h_v3_1 h_g_cells dX4_allDrops_9 (by decide) (fun c1 => ?_) (fun c1 => ?_)
      · have hm := z_pos c1 hm
        refine z_sub (L' := [(2, z_i v2_1)]) [2] rfl ?_
        cases hm
        exact JX1 h_v2_1
      · have hm := z_neg c1 hm
        refine z_iload_n C dX4_allDrops_12 3 rfl ?_
        refine z_bipush C dX4_allDrops_13 (by decide) ?_
        refine z_icmp_ge (tgt := 33) C h_v3_1 (z_k 36 rfl) dX4_allDrops_15 (by decide) (fun c2 => ?_) (fun c2 => ?_)
        · have hm := z_pos c2 hm
          refine z_sub (L' := [(2, z_i v2_1)]) [2] rfl ?_
          cases hm
          exact JX1 h_v2_1
        · have hm := z_neg c2 hm
          refine z_iload_n C dX4_allDrops_18 2 rfl ?_
          refine z_aload_n C dX4_allDrops_19 0 rfl ?_
          refine z_get C zf_X4_15 dX4_allDrops_20 0 rfl rfl ?_
          refine z_iload_n C dX4_allDrops_23 3 rfl ?_
          obtain ⟨c3, hm⟩ := z_chk_some hm
          refine z_iald C dX4_allDrops_24 2 rfl c3 h_v3_1 ?_
          obtain ⟨c4, hm⟩ := z_chk_some hm
          refine z_iadd C dX4_allDrops_25 ?_
          refine z_istore_n C dX4_allDrops_26 (by decide) (L' := [(2, z_i (v2_1 + (t_drops v3_1))), (0, .ref t_o), (1, .ref g_o), (3, z_i v3_1)]) rfl ?_
          obtain ⟨c5, hm⟩ := z_chk_some hm
          refine z_iinc C dX4_allDrops_27 3 rfl (by decide) (L' := [(3, z_i (v3_1 + 1)), (2, z_i (v2_1 + (t_drops v3_1))), (0, .ref t_o), (1, .ref g_o)]) rfl ?_
          refine z_goto (tgt := 4) C dX4_allDrops_30 (by decide) ?_
          refine z_sub (L' := [(0, .ref t_o), (1, .ref g_o), (2, z_i (v2_1 + (t_drops v3_1))), (3, z_i (v3_1 + 1))]) [2, 3, 1, 0] rfl ?_
          exact ih1 (v2_1 + (t_drops v3_1)) (v3_1 + 1) c4 c5 hm
  refine z_sub (L' := [(0, .ref t_o), (1, .ref g_o), (2, z_i 0), (3, z_i 0)]) [2, 3, 1, 0] rfl ?_
  exact L1 N 0 0 (z_k 0 rfl) (z_k 0 rfl) hl
set_option maxRecDepth 100000 in
theorem k_X5_rain (l : Launch) (G : z_G) (N : Nat) (m_o tx_o gr_o nw_o og_o la_o ss_o un_o kp_o m_AringCell m_AringDrops gr_Akind gr_Abeside gr_AbesideBits nw_Aheight nw_Adrops un_Aheights un_Adrops un_Ahours : Nat) (m_ringCell : (Int → Int)) (m_ringDrops : (Int → Int)) (m_rings : Int) (gr_rows : Int) (gr_columns : Int) (gr_cells : Int) (gr_kind : (Int → Int)) (gr_beside : (Int → Int)) (gr_besideBits : (Int → Int64)) (nw_height : (Int → Int)) (nw_drops : (Int → Int)) (nw_hours : Int) (nw_restless : Int64) (un_heights : (Int → Int)) (un_drops : (Int → Int)) (un_hours : (Int → Int)) (un_many : Int) (x1 : Int) (h_m_ringCell : z_r m_ringCell) (h_m_ringDrops : z_r m_ringDrops) (h_m_rings : z_n m_rings) (h_gr_rows : z_n gr_rows) (h_gr_columns : z_n gr_columns) (h_gr_cells : z_n gr_cells) (h_gr_kind : z_r gr_kind) (h_gr_beside : z_r gr_beside) (h_nw_height : z_r nw_height) (h_nw_drops : z_r nw_drops) (h_nw_hours : z_n nw_hours) (h_un_heights : z_r un_heights) (h_un_drops : z_r un_drops) (h_un_hours : z_r un_hours) (h_un_many : z_n un_many) (h_x1 : z_n x1) (rr : Int) (q_nw_drops : (Int → Int)) (q_nw_restless : Int64) (q_un_heights : (Int → Int)) (q_un_drops : (Int → Int)) (q_un_hours : (Int → Int)) (q_un_many : Int) (hm : m_X5_rain N gr_cells gr_kind gr_beside gr_besideBits nw_height nw_drops nw_hours nw_restless un_heights un_drops un_hours un_many x1 = some (rr, q_nw_drops, q_nw_restless, q_un_heights, q_un_drops, q_un_hours, q_un_many)) : z_M l G yX5_rain cX5_rain 2 (some .int) (k2_rm 6 133) [.ref m_o, z_i x1] ([(m_o, z_o 5 [.ref tx_o, .ref gr_o, .ref nw_o, .ref og_o, .ref la_o, .ref ss_o, .ref un_o, .ref kp_o, .ref m_AringCell, .ref m_AringDrops, z_i m_rings]), (m_AringCell, z_a G.2.1 6 m_ringCell), (m_AringDrops, z_a G.2.1 6 m_ringDrops), (gr_o, z_o 0 [z_i gr_rows, z_i gr_columns, z_i gr_cells, .ref gr_Akind, .ref gr_Abeside, .ref gr_AbesideBits]), (gr_Akind, z_a G.2.1 36 gr_kind), (gr_Abeside, z_a G.2.1 144 gr_beside), (gr_AbesideBits, z_l G.2.2.1 36 gr_besideBits), (nw_o, z_o 4 [.ref nw_Aheight, .ref nw_Adrops, z_i nw_hours, .long nw_restless]), (nw_Aheight, z_a G.2.1 36 nw_height), (nw_Adrops, z_a G.2.1 36 nw_drops), (un_o, z_o 1 [.ref un_Aheights, .ref un_Adrops, .ref un_Ahours, z_i un_many]), (un_Aheights, z_a G.2.1 288 un_heights), (un_Adrops, z_a G.2.1 288 un_drops), (un_Ahours, z_a G.2.1 8 un_hours)]) 0 0 (fun v w => v = some (z_i rr) ∧ w = [(m_o, z_o 5 [.ref tx_o, .ref gr_o, .ref nw_o, .ref og_o, .ref la_o, .ref ss_o, .ref un_o, .ref kp_o, .ref m_AringCell, .ref m_AringDrops, z_i m_rings]), (m_AringCell, z_a G.2.1 6 m_ringCell), (m_AringDrops, z_a G.2.1 6 m_ringDrops), (gr_o, z_o 0 [z_i gr_rows, z_i gr_columns, z_i gr_cells, .ref gr_Akind, .ref gr_Abeside, .ref gr_AbesideBits]), (gr_Akind, z_a G.2.1 36 gr_kind), (gr_Abeside, z_a G.2.1 144 gr_beside), (gr_AbesideBits, z_l G.2.2.1 36 gr_besideBits), (nw_o, z_o 4 [.ref nw_Aheight, .ref nw_Adrops, z_i nw_hours, .long q_nw_restless]), (nw_Aheight, z_a G.2.1 36 nw_height), (nw_Adrops, z_a G.2.1 36 q_nw_drops), (un_o, z_o 1 [.ref un_Aheights, .ref un_Adrops, .ref un_Ahours, z_i q_un_many]), (un_Aheights, z_a G.2.1 288 q_un_heights), (un_Adrops, z_a G.2.1 288 q_un_drops), (un_Ahours, z_a G.2.1 8 q_un_hours)] ∧ z_n rr ∧ z_r q_nw_drops ∧ z_r q_un_heights ∧ z_r q_un_drops ∧ z_r q_un_hours ∧ z_n q_un_many ∧ True) := by
  unfold m_X5_rain at hm
  refine z_M.intro (by decide +kernel) (Nat.le_of_ble_eq_true rfl) (L := [(0, .ref m_o), (1, z_i x1)]) rfl (fun X C E => ?_)
  refine z_iload_n C dX5_rain_0 1 rfl ?_
  refine z_iconst C dX5_rain_1 ?_
  refine z_bipush C dX5_rain_2 (by decide) ?_
  obtain ⟨r1, k2, hm⟩ := z_b1s hm
  refine z_callSi C (k_X5_isFrom l G N x1 1 9 h_x1 (z_k 1 rfl) (z_k 9 rfl) r1 k2) zs_X5_isFrom zl_X5_100 dX5_rain_4 [] rfl rfl rfl (ws' := [(m_o, z_o 5 [.ref tx_o, .ref gr_o, .ref nw_o, .ref og_o, .ref la_o, .ref ss_o, .ref un_o, .ref kp_o, .ref m_AringCell, .ref m_AringDrops, z_i m_rings]), (m_AringCell, z_a G.2.1 6 m_ringCell), (m_AringDrops, z_a G.2.1 6 m_ringDrops), (gr_o, z_o 0 [z_i gr_rows, z_i gr_columns, z_i gr_cells, .ref gr_Akind, .ref gr_Abeside, .ref gr_AbesideBits]), (gr_Akind, z_a G.2.1 36 gr_kind), (gr_Abeside, z_a G.2.1 144 gr_beside), (gr_AbesideBits, z_l G.2.2.1 36 gr_besideBits), (nw_o, z_o 4 [.ref nw_Aheight, .ref nw_Adrops, z_i nw_hours, .long nw_restless]), (nw_Aheight, z_a G.2.1 36 nw_height), (nw_Adrops, z_a G.2.1 36 nw_drops), (un_o, z_o 1 [.ref un_Aheights, .ref un_Adrops, .ref un_Ahours, z_i un_many]), (un_Aheights, z_a G.2.1 288 un_heights), (un_Adrops, z_a G.2.1 288 un_drops), (un_Ahours, z_a G.2.1 8 un_hours)]) rfl rfl [] rfl (Nat.le_of_ble_eq_true rfl) ⟨Nat.le_of_ble_eq_true rfl, Nat.le_of_ble_eq_true rfl⟩ ⟨rfl, rfl⟩ ⟨Nat.zero_le _, Nat.zero_le _⟩ (fun hF => ?_)
  obtain ⟨hb_r1, -⟩ := hF
  refine z_if_ne (tgt := 12) C (z_n01 hb_r1) dX5_rain_7 (by decide) (fun c3 => ?_) (fun c3 => ?_)
  · have hm := z_pos c3 hm
    refine z_aload_n C dX5_rain_12 0 rfl ?_
    refine z_get C zf_X5_46 dX5_rain_13 0 rfl rfl ?_
    refine z_aload_n C dX5_rain_16 0 rfl ?_
    refine z_get C zf_X5_26 dX5_rain_17 0 rfl rfl ?_
    obtain ⟨un_heights_4, un_drops_5, un_hours_6, un_many_7, k8, hm⟩ := z_b4s hm
    refine z_callVv C (k_X1_push l G N un_o un_Aheights un_Adrops un_Ahours nw_o nw_Aheight nw_Adrops un_heights un_drops un_hours un_many nw_height nw_drops nw_hours nw_restless h_un_heights h_un_drops h_un_hours h_un_many h_nw_height h_nw_drops h_nw_hours un_heights_4 un_drops_5 un_hours_6 un_many_7 k8) zv_X1_push zl_X5_128 dX5_rain_20 [10, 11, 12, 13, 7, 8, 9] rfl rfl rfl (ws' := [(m_o, z_o 5 [.ref tx_o, .ref gr_o, .ref nw_o, .ref og_o, .ref la_o, .ref ss_o, .ref un_o, .ref kp_o, .ref m_AringCell, .ref m_AringDrops, z_i m_rings]), (m_AringCell, z_a G.2.1 6 m_ringCell), (m_AringDrops, z_a G.2.1 6 m_ringDrops), (gr_o, z_o 0 [z_i gr_rows, z_i gr_columns, z_i gr_cells, .ref gr_Akind, .ref gr_Abeside, .ref gr_AbesideBits]), (gr_Akind, z_a G.2.1 36 gr_kind), (gr_Abeside, z_a G.2.1 144 gr_beside), (gr_AbesideBits, z_l G.2.2.1 36 gr_besideBits), (nw_o, z_o 4 [.ref nw_Aheight, .ref nw_Adrops, z_i nw_hours, .long nw_restless]), (nw_Aheight, z_a G.2.1 36 nw_height), (nw_Adrops, z_a G.2.1 36 nw_drops), (un_o, z_o 1 [.ref un_Aheights, .ref un_Adrops, .ref un_Ahours, z_i un_many_7]), (un_Aheights, z_a G.2.1 288 un_heights_4), (un_Adrops, z_a G.2.1 288 un_drops_5), (un_Ahours, z_a G.2.1 8 un_hours_6)]) rfl 10 rfl rfl rfl [] rfl (Nat.le_of_ble_eq_true rfl) ⟨Nat.le_of_ble_eq_true rfl, Nat.le_of_ble_eq_true rfl⟩ ⟨rfl, rfl⟩ ⟨Nat.zero_le _, Nat.zero_le _⟩ (fun hF => ?_)
    obtain ⟨h_un_heights_4, h_un_drops_5, h_un_hours_6, h_un_many_7, -⟩ := hF
    refine z_aload_n C dX5_rain_23 0 rfl ?_
    refine z_get C zf_X5_26 dX5_rain_24 0 rfl rfl ?_
    refine z_aload_n C dX5_rain_27 0 rfl ?_
    refine z_get C zf_X5_19 dX5_rain_28 0 rfl rfl ?_
    refine z_iload_n C dX5_rain_31 1 rfl ?_
    obtain ⟨nw_drops_9, nw_restless_10, k11, hm⟩ := z_b2s hm
    refine z_callVv C (k_X4_pour l G N nw_o nw_Aheight nw_Adrops gr_o gr_Akind gr_Abeside gr_AbesideBits nw_height nw_drops nw_hours nw_restless gr_rows gr_columns gr_cells gr_kind gr_beside gr_besideBits x1 h_nw_height h_nw_drops h_nw_hours h_gr_rows h_gr_columns h_gr_cells h_gr_kind h_gr_beside h_x1 nw_drops_9 nw_restless_10 k11) zv_X4_pour zl_X5_132 dX5_rain_32 [7, 8, 9, 3, 4, 5, 6] rfl rfl rfl (ws' := [(m_o, z_o 5 [.ref tx_o, .ref gr_o, .ref nw_o, .ref og_o, .ref la_o, .ref ss_o, .ref un_o, .ref kp_o, .ref m_AringCell, .ref m_AringDrops, z_i m_rings]), (m_AringCell, z_a G.2.1 6 m_ringCell), (m_AringDrops, z_a G.2.1 6 m_ringDrops), (gr_o, z_o 0 [z_i gr_rows, z_i gr_columns, z_i gr_cells, .ref gr_Akind, .ref gr_Abeside, .ref gr_AbesideBits]), (gr_Akind, z_a G.2.1 36 gr_kind), (gr_Abeside, z_a G.2.1 144 gr_beside), (gr_AbesideBits, z_l G.2.2.1 36 gr_besideBits), (nw_o, z_o 4 [.ref nw_Aheight, .ref nw_Adrops, z_i nw_hours, .long nw_restless_10]), (nw_Aheight, z_a G.2.1 36 nw_height), (nw_Adrops, z_a G.2.1 36 nw_drops_9), (un_o, z_o 1 [.ref un_Aheights, .ref un_Adrops, .ref un_Ahours, z_i un_many_7]), (un_Aheights, z_a G.2.1 288 un_heights_4), (un_Adrops, z_a G.2.1 288 un_drops_5), (un_Ahours, z_a G.2.1 8 un_hours_6)]) rfl 7 rfl rfl rfl [] rfl (Nat.le_of_ble_eq_true rfl) ⟨Nat.le_of_ble_eq_true rfl, Nat.le_of_ble_eq_true rfl⟩ ⟨rfl, rfl⟩ ⟨Nat.zero_le _, Nat.zero_le _⟩ (fun hF => ?_)
    obtain ⟨h_nw_drops_9, -⟩ := hF
    refine z_aload_n C dX5_rain_35 0 rfl ?_
    refine z_get C zf_X5_26 dX5_rain_36 0 rfl rfl ?_
    refine z_aload_n C dX5_rain_39 0 rfl ?_
    refine z_get C zf_X5_19 dX5_rain_40 0 rfl rfl ?_
    obtain ⟨r12, k13, hm⟩ := z_b1s hm
    refine z_callVi C (k_X4_allDrops l G N nw_o nw_Aheight nw_Adrops gr_o gr_Akind gr_Abeside gr_AbesideBits nw_height nw_drops_9 nw_hours nw_restless_10 gr_rows gr_columns gr_cells gr_kind gr_beside gr_besideBits h_nw_height h_nw_drops_9 h_nw_hours h_gr_rows h_gr_columns h_gr_cells h_gr_kind h_gr_beside r12 k13) zv_X4_allDrops zl_X5_136 dX5_rain_43 [7, 8, 9, 3, 4, 5, 6] rfl rfl rfl (ws' := [(m_o, z_o 5 [.ref tx_o, .ref gr_o, .ref nw_o, .ref og_o, .ref la_o, .ref ss_o, .ref un_o, .ref kp_o, .ref m_AringCell, .ref m_AringDrops, z_i m_rings]), (m_AringCell, z_a G.2.1 6 m_ringCell), (m_AringDrops, z_a G.2.1 6 m_ringDrops), (gr_o, z_o 0 [z_i gr_rows, z_i gr_columns, z_i gr_cells, .ref gr_Akind, .ref gr_Abeside, .ref gr_AbesideBits]), (gr_Akind, z_a G.2.1 36 gr_kind), (gr_Abeside, z_a G.2.1 144 gr_beside), (gr_AbesideBits, z_l G.2.2.1 36 gr_besideBits), (nw_o, z_o 4 [.ref nw_Aheight, .ref nw_Adrops, z_i nw_hours, .long nw_restless_10]), (nw_Aheight, z_a G.2.1 36 nw_height), (nw_Adrops, z_a G.2.1 36 nw_drops_9), (un_o, z_o 1 [.ref un_Aheights, .ref un_Adrops, .ref un_Ahours, z_i un_many_7]), (un_Aheights, z_a G.2.1 288 un_heights_4), (un_Adrops, z_a G.2.1 288 un_drops_5), (un_Ahours, z_a G.2.1 8 un_hours_6)]) rfl 7 rfl rfl rfl [] rfl (Nat.le_of_ble_eq_true rfl) ⟨Nat.le_of_ble_eq_true rfl, Nat.le_of_ble_eq_true rfl⟩ ⟨rfl, rfl⟩ ⟨Nat.zero_le _, Nat.zero_le _⟩ (fun hF => ?_)
    obtain ⟨h_r12, -⟩ := hF
    cases hm
    exact z_iret C E dX5_rain_46 ⟨rfl, rfl, h_r12, h_nw_drops_9, h_un_heights_4, h_un_drops_5, h_un_hours_6, h_un_many_7, trivial⟩
  · have hm := z_neg c3 hm
    refine z_iconst C dX5_rain_10 ?_
    cases hm
    exact z_iret C E dX5_rain_11 ⟨rfl, rfl, (z_k (-1) rfl), h_nw_drops, h_un_heights, h_un_drops, h_un_hours, h_un_many, trivial⟩
set_option maxRecDepth 100000 in
theorem k_X0_isKind (l : Launch) (G : z_G) (N : Nat) (t_o t_Akind t_Abeside t_AbesideBits : Nat) (t_rows : Int) (t_columns : Int) (t_cells : Int) (t_kind : (Int → Int)) (t_beside : (Int → Int)) (t_besideBits : (Int → Int64)) (x1 : Int) (x2 : Int) (h_t_rows : z_n t_rows) (h_t_columns : z_n t_columns) (h_t_cells : z_n t_cells) (h_t_kind : z_r t_kind) (h_t_beside : z_r t_beside) (h_x1 : z_n x1) (h_x2 : z_n x2) (rr : Int) (hm : m_X0_isKind N t_cells t_kind x1 x2 = some (rr)) : z_M l G yX0_isKind cX0_isKind 3 (some .boolean) (k2_rm 1 21) [.ref t_o, z_i x1, z_i x2] ([(t_o, z_o 0 [z_i t_rows, z_i t_columns, z_i t_cells, .ref t_Akind, .ref t_Abeside, .ref t_AbesideBits]), (t_Akind, z_a G.2.1 36 t_kind), (t_Abeside, z_a G.2.1 144 t_beside), (t_AbesideBits, z_l G.2.2.1 36 t_besideBits)]) 0 0 (fun v w => v = some (z_i rr) ∧ w = [(t_o, z_o 0 [z_i t_rows, z_i t_columns, z_i t_cells, .ref t_Akind, .ref t_Abeside, .ref t_AbesideBits]), (t_Akind, z_a G.2.1 36 t_kind), (t_Abeside, z_a G.2.1 144 t_beside), (t_AbesideBits, z_l G.2.2.1 36 t_besideBits)] ∧ (rr = 0 ∨ rr = 1) ∧ True) := by
  unfold m_X0_isKind at hm
  refine z_M.intro (by decide +kernel) (Nat.le_of_ble_eq_true rfl) (L := [(0, .ref t_o), (1, z_i x1), (2, z_i x2)]) rfl (fun X C E => ?_)
  refine z_aload_n C dX0_isKind_0 0 rfl ?_
  refine z_iload_n C dX0_isKind_1 1 rfl ?_
  obtain ⟨r1, k2, hm⟩ := z_b1s hm
  refine z_callVi C (k_X0_holds l G N t_o t_Akind t_Abeside t_AbesideBits t_rows t_columns t_cells t_kind t_beside t_besideBits x1 h_t_rows h_t_columns h_t_cells h_t_kind h_t_beside h_x1 r1 k2) zv_X0_holds zl_X0_46 dX0_isKind_2 [0, 1, 2, 3] rfl rfl rfl (ws' := [(t_o, z_o 0 [z_i t_rows, z_i t_columns, z_i t_cells, .ref t_Akind, .ref t_Abeside, .ref t_AbesideBits]), (t_Akind, z_a G.2.1 36 t_kind), (t_Abeside, z_a G.2.1 144 t_beside), (t_AbesideBits, z_l G.2.2.1 36 t_besideBits)]) rfl 0 rfl rfl rfl [] rfl (Nat.le_of_ble_eq_true rfl) ⟨Nat.le_of_ble_eq_true rfl, Nat.le_of_ble_eq_true rfl⟩ ⟨rfl, rfl⟩ ⟨Nat.zero_le _, Nat.zero_le _⟩ (fun hF => ?_)
  obtain ⟨hb_r1, -⟩ := hF
  refine z_if_eq (tgt := 22) C (z_n01 hb_r1) dX0_isKind_5 (by decide) (fun c3 => ?_) (fun c3 => ?_)
  · have hm := z_pos c3 hm
    refine z_iconst C dX0_isKind_22 ?_
    cases hm
    exact z_zret C E (Or.inl rfl) dX0_isKind_23 ⟨rfl, rfl, (Or.inl rfl), trivial⟩
  · have hm := z_neg c3 hm
    refine z_aload_n C dX0_isKind_8 0 rfl ?_
    refine z_get C zf_X0_21 dX0_isKind_9 0 rfl rfl ?_
    refine z_iload_n C dX0_isKind_12 1 rfl ?_
    obtain ⟨c4, hm⟩ := z_chk_some hm
    refine z_iald C dX0_isKind_13 1 rfl c4 h_x1 ?_
    refine z_iload_n C dX0_isKind_14 2 rfl ?_
    refine z_icmp_ne (tgt := 22) C (h_t_kind _) h_x2 dX0_isKind_15 (by decide) (fun c5 => ?_) (fun c5 => ?_)
    · have hm := z_pos c5 hm
      refine z_iconst C dX0_isKind_22 ?_
      cases hm
      exact z_zret C E (Or.inl rfl) dX0_isKind_23 ⟨rfl, rfl, (Or.inl rfl), trivial⟩
    · have hm := z_neg c5 hm
      refine z_iconst C dX0_isKind_18 ?_
      refine z_goto (tgt := 23) C dX0_isKind_19 (by decide) ?_
      cases hm
      exact z_zret C E (Or.inr rfl) dX0_isKind_23 ⟨rfl, rfl, (Or.inr rfl), trivial⟩
