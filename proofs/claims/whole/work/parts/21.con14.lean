set_option maxRecDepth 100000 in
theorem k_X5_year (l : Launch) (G : z_G) (N : Nat) (m_o tx_o gr_o nw_o og_o la_o ss_o un_o kp_o m_AringCell m_AringDrops gr_Akind gr_Abeside gr_AbesideBits nw_Aheight nw_Adrops la_Aheight la_Adrops ss_Astate ss_Awaiting : Nat) (m_ringCell : (Int → Int)) (m_ringDrops : (Int → Int)) (m_rings : Int) (gr_rows : Int) (gr_columns : Int) (gr_cells : Int) (gr_kind : (Int → Int)) (gr_beside : (Int → Int)) (gr_besideBits : (Int → Int64)) (nw_height : (Int → Int)) (nw_drops : (Int → Int)) (nw_hours : Int) (nw_restless : Int64) (la_height : (Int → Int)) (la_drops : (Int → Int)) (la_hours : Int) (la_restless : Int64) (ss_state : (Int → Int)) (ss_waiting : (Int → Int)) (ss_waits : Int) (ss_cells : Int) (ss_many : Int) (x1 : Int) (x2 : Int) (x3 : Int) (h_m_ringCell : z_r m_ringCell) (h_m_ringDrops : z_r m_ringDrops) (h_m_rings : z_n m_rings) (h_gr_rows : z_n gr_rows) (h_gr_columns : z_n gr_columns) (h_gr_cells : z_n gr_cells) (h_gr_kind : z_r gr_kind) (h_gr_beside : z_r gr_beside) (h_nw_height : z_r nw_height) (h_nw_drops : z_r nw_drops) (h_nw_hours : z_n nw_hours) (h_la_height : z_r la_height) (h_la_drops : z_r la_drops) (h_la_hours : z_n la_hours) (h_ss_state : z_r ss_state) (h_ss_waiting : z_r ss_waiting) (h_ss_waits : z_n ss_waits) (h_ss_cells : z_n ss_cells) (h_ss_many : z_n ss_many) (h_x1 : z_n x1) (h_x2 : z_n x2) (h_x3 : z_n x3) (rr : Int) (q_la_height : (Int → Int)) (q_la_drops : (Int → Int)) (q_la_hours : Int) (q_la_restless : Int64) (q_ss_state : (Int → Int)) (q_ss_waiting : (Int → Int)) (q_ss_waits : Int) (q_ss_cells : Int) (q_ss_many : Int) (hm : m_X5_year N gr_cells gr_kind gr_beside gr_besideBits nw_height nw_drops nw_hours la_height la_drops la_hours la_restless ss_state ss_waiting ss_waits ss_cells ss_many x1 x2 x3 = some (rr, q_la_height, q_la_drops, q_la_hours, q_la_restless, q_ss_state, q_ss_waiting, q_ss_waits, q_ss_cells, q_ss_many)) : z_M l G yX5_year cX5_year 6 (some .int) (k2_rm 7 156) [.ref m_o, z_i x1, z_i x2, z_i x3] ([(m_o, z_o 5 [.ref tx_o, .ref gr_o, .ref nw_o, .ref og_o, .ref la_o, .ref ss_o, .ref un_o, .ref kp_o, .ref m_AringCell, .ref m_AringDrops, z_i m_rings]), (m_AringCell, z_a G.2.1 6 m_ringCell), (m_AringDrops, z_a G.2.1 6 m_ringDrops), (gr_o, z_o 0 [z_i gr_rows, z_i gr_columns, z_i gr_cells, .ref gr_Akind, .ref gr_Abeside, .ref gr_AbesideBits]), (gr_Akind, z_a G.2.1 36 gr_kind), (gr_Abeside, z_a G.2.1 144 gr_beside), (gr_AbesideBits, z_l G.2.2.1 36 gr_besideBits), (nw_o, z_o 4 [.ref nw_Aheight, .ref nw_Adrops, z_i nw_hours, .long nw_restless]), (nw_Aheight, z_a G.2.1 36 nw_height), (nw_Adrops, z_a G.2.1 36 nw_drops), (la_o, z_o 4 [.ref la_Aheight, .ref la_Adrops, z_i la_hours, .long la_restless]), (la_Aheight, z_a G.2.1 36 la_height), (la_Adrops, z_a G.2.1 36 la_drops), (ss_o, z_o 2 [.ref ss_Astate, .ref ss_Awaiting, z_i ss_waits, z_i ss_cells, z_i ss_many]), (ss_Astate, z_a G.2.1 36 ss_state), (ss_Awaiting, z_a G.2.1 36 ss_waiting)]) 0 0 (fun v w => v = some (z_i rr) ∧ w = [(m_o, z_o 5 [.ref tx_o, .ref gr_o, .ref nw_o, .ref og_o, .ref la_o, .ref ss_o, .ref un_o, .ref kp_o, .ref m_AringCell, .ref m_AringDrops, z_i m_rings]), (m_AringCell, z_a G.2.1 6 m_ringCell), (m_AringDrops, z_a G.2.1 6 m_ringDrops), (gr_o, z_o 0 [z_i gr_rows, z_i gr_columns, z_i gr_cells, .ref gr_Akind, .ref gr_Abeside, .ref gr_AbesideBits]), (gr_Akind, z_a G.2.1 36 gr_kind), (gr_Abeside, z_a G.2.1 144 gr_beside), (gr_AbesideBits, z_l G.2.2.1 36 gr_besideBits), (nw_o, z_o 4 [.ref nw_Aheight, .ref nw_Adrops, z_i nw_hours, .long nw_restless]), (nw_Aheight, z_a G.2.1 36 nw_height), (nw_Adrops, z_a G.2.1 36 nw_drops), (la_o, z_o 4 [.ref la_Aheight, .ref la_Adrops, z_i q_la_hours, .long q_la_restless]), (la_Aheight, z_a G.2.1 36 q_la_height), (la_Adrops, z_a G.2.1 36 q_la_drops), (ss_o, z_o 2 [.ref ss_Astate, .ref ss_Awaiting, z_i q_ss_waits, z_i q_ss_cells, z_i q_ss_many]), (ss_Astate, z_a G.2.1 36 q_ss_state), (ss_Awaiting, z_a G.2.1 36 q_ss_waiting)] ∧ z_n rr ∧ z_r q_la_height ∧ z_r q_la_drops ∧ z_n q_la_hours ∧ z_r q_ss_state ∧ z_r q_ss_waiting ∧ z_n q_ss_waits ∧ z_n q_ss_cells ∧ z_n q_ss_many ∧ True) := by
  unfold m_X5_year at hm
  refine z_M.intro (by decide +kernel) (Nat.le_of_ble_eq_true rfl) (L := [(0, .ref m_o), (1, z_i x1), (2, z_i x2), (3, z_i x3)]) rfl (fun X C E => ?_)
  refine z_iload_n C dX5_year_0 1 rfl ?_
  refine z_iconst C dX5_year_1 ?_
  refine z_sipush C dX5_year_2 (by decide) ?_
  obtain ⟨r1, k2, hm⟩ := z_b1s hm
  refine z_callSi C (k_X5_isFrom l G N x1 0 9999 h_x1 (z_k 0 rfl) (z_k 9999 rfl) r1 k2) zs_X5_isFrom zl_X5_100 dX5_year_5 [] rfl rfl rfl (ws' := [(m_o, z_o 5 [.ref tx_o, .ref gr_o, .ref nw_o, .ref og_o, .ref la_o, .ref ss_o, .ref un_o, .ref kp_o, .ref m_AringCell, .ref m_AringDrops, z_i m_rings]), (m_AringCell, z_a G.2.1 6 m_ringCell), (m_AringDrops, z_a G.2.1 6 m_ringDrops), (gr_o, z_o 0 [z_i gr_rows, z_i gr_columns, z_i gr_cells, .ref gr_Akind, .ref gr_Abeside, .ref gr_AbesideBits]), (gr_Akind, z_a G.2.1 36 gr_kind), (gr_Abeside, z_a G.2.1 144 gr_beside), (gr_AbesideBits, z_l G.2.2.1 36 gr_besideBits), (nw_o, z_o 4 [.ref nw_Aheight, .ref nw_Adrops, z_i nw_hours, .long nw_restless]), (nw_Aheight, z_a G.2.1 36 nw_height), (nw_Adrops, z_a G.2.1 36 nw_drops), (la_o, z_o 4 [.ref la_Aheight, .ref la_Adrops, z_i la_hours, .long la_restless]), (la_Aheight, z_a G.2.1 36 la_height), (la_Adrops, z_a G.2.1 36 la_drops), (ss_o, z_o 2 [.ref ss_Astate, .ref ss_Awaiting, z_i ss_waits, z_i ss_cells, z_i ss_many]), (ss_Astate, z_a G.2.1 36 ss_state), (ss_Awaiting, z_a G.2.1 36 ss_waiting)]) rfl rfl [] rfl (Nat.le_of_ble_eq_true rfl) ⟨Nat.le_of_ble_eq_true rfl, Nat.le_of_ble_eq_true rfl⟩ ⟨rfl, rfl⟩ ⟨Nat.zero_le _, Nat.zero_le _⟩ (fun hF => ?_)
  obtain ⟨hb_r1, -⟩ := hF
  refine z_if_eq (tgt := 30) C (z_n01 hb_r1) dX5_year_8 (by decide) (fun c3 => ?_) (fun c3 => ?_)
  · have hm := z_pos c3 hm
    refine z_iconst C dX5_year_30 ?_
    cases hm
    exact z_iret C E dX5_year_31 ⟨rfl, rfl, (z_k (-1) rfl), h_la_height, h_la_drops, h_la_hours, h_ss_state, h_ss_waiting, h_ss_waits, h_ss_cells, h_ss_many, trivial⟩
  · have hm := z_neg c3 hm
    refine z_iload_n C dX5_year_11 2 rfl ?_
    refine z_iconst C dX5_year_12 ?_
    refine z_bipush C dX5_year_13 (by decide) ?_
    obtain ⟨r4, k5, hm⟩ := z_b1s hm
    refine z_callSi C (k_X5_isFrom l G N x2 1 30 h_x2 (z_k 1 rfl) (z_k 30 rfl) r4 k5) zs_X5_isFrom zl_X5_100 dX5_year_15 [] rfl rfl rfl (ws' := [(m_o, z_o 5 [.ref tx_o, .ref gr_o, .ref nw_o, .ref og_o, .ref la_o, .ref ss_o, .ref un_o, .ref kp_o, .ref m_AringCell, .ref m_AringDrops, z_i m_rings]), (m_AringCell, z_a G.2.1 6 m_ringCell), (m_AringDrops, z_a G.2.1 6 m_ringDrops), (gr_o, z_o 0 [z_i gr_rows, z_i gr_columns, z_i gr_cells, .ref gr_Akind, .ref gr_Abeside, .ref gr_AbesideBits]), (gr_Akind, z_a G.2.1 36 gr_kind), (gr_Abeside, z_a G.2.1 144 gr_beside), (gr_AbesideBits, z_l G.2.2.1 36 gr_besideBits), (nw_o, z_o 4 [.ref nw_Aheight, .ref nw_Adrops, z_i nw_hours, .long nw_restless]), (nw_Aheight, z_a G.2.1 36 nw_height), (nw_Adrops, z_a G.2.1 36 nw_drops), (la_o, z_o 4 [.ref la_Aheight, .ref la_Adrops, z_i la_hours, .long la_restless]), (la_Aheight, z_a G.2.1 36 la_height), (la_Adrops, z_a G.2.1 36 la_drops), (ss_o, z_o 2 [.ref ss_Astate, .ref ss_Awaiting, z_i ss_waits, z_i ss_cells, z_i ss_many]), (ss_Astate, z_a G.2.1 36 ss_state), (ss_Awaiting, z_a G.2.1 36 ss_waiting)]) rfl rfl [] rfl (Nat.le_of_ble_eq_true rfl) ⟨Nat.le_of_ble_eq_true rfl, Nat.le_of_ble_eq_true rfl⟩ ⟨rfl, rfl⟩ ⟨Nat.zero_le _, Nat.zero_le _⟩ (fun hF => ?_)
    obtain ⟨hb_r4, -⟩ := hF
    refine z_if_eq (tgt := 30) C (z_n01 hb_r4) dX5_year_18 (by decide) (fun c6 => ?_) (fun c6 => ?_)
    · have hm := z_pos c6 hm
      refine z_iconst C dX5_year_30 ?_
      cases hm
      exact z_iret C E dX5_year_31 ⟨rfl, rfl, (z_k (-1) rfl), h_la_height, h_la_drops, h_la_hours, h_ss_state, h_ss_waiting, h_ss_waits, h_ss_cells, h_ss_many, trivial⟩
    · have hm := z_neg c6 hm
      refine z_iload_n C dX5_year_21 3 rfl ?_
      refine z_iconst C dX5_year_22 ?_
      refine z_iconst C dX5_year_23 ?_
      obtain ⟨r7, k8, hm⟩ := z_b1s hm
      refine z_callSi C (k_X5_isFrom l G N x3 0 1 h_x3 (z_k 0 rfl) (z_k 1 rfl) r7 k8) zs_X5_isFrom zl_X5_100 dX5_year_24 [] rfl rfl rfl (ws' := [(m_o, z_o 5 [.ref tx_o, .ref gr_o, .ref nw_o, .ref og_o, .ref la_o, .ref ss_o, .ref un_o, .ref kp_o, .ref m_AringCell, .ref m_AringDrops, z_i m_rings]), (m_AringCell, z_a G.2.1 6 m_ringCell), (m_AringDrops, z_a G.2.1 6 m_ringDrops), (gr_o, z_o 0 [z_i gr_rows, z_i gr_columns, z_i gr_cells, .ref gr_Akind, .ref gr_Abeside, .ref gr_AbesideBits]), (gr_Akind, z_a G.2.1 36 gr_kind), (gr_Abeside, z_a G.2.1 144 gr_beside), (gr_AbesideBits, z_l G.2.2.1 36 gr_besideBits), (nw_o, z_o 4 [.ref nw_Aheight, .ref nw_Adrops, z_i nw_hours, .long nw_restless]), (nw_Aheight, z_a G.2.1 36 nw_height), (nw_Adrops, z_a G.2.1 36 nw_drops), (la_o, z_o 4 [.ref la_Aheight, .ref la_Adrops, z_i la_hours, .long la_restless]), (la_Aheight, z_a G.2.1 36 la_height), (la_Adrops, z_a G.2.1 36 la_drops), (ss_o, z_o 2 [.ref ss_Astate, .ref ss_Awaiting, z_i ss_waits, z_i ss_cells, z_i ss_many]), (ss_Astate, z_a G.2.1 36 ss_state), (ss_Awaiting, z_a G.2.1 36 ss_waiting)]) rfl rfl [] rfl (Nat.le_of_ble_eq_true rfl) ⟨Nat.le_of_ble_eq_true rfl, Nat.le_of_ble_eq_true rfl⟩ ⟨rfl, rfl⟩ ⟨Nat.zero_le _, Nat.zero_le _⟩ (fun hF => ?_)
      obtain ⟨hb_r7, -⟩ := hF
      refine z_if_ne (tgt := 32) C (z_n01 hb_r7) dX5_year_27 (by decide) (fun c9 => ?_) (fun c9 => ?_)
      · have hm := z_pos c9 hm
        refine z_aload_n C dX5_year_32 0 rfl ?_
        refine z_get C zf_X5_33 dX5_year_33 0 rfl rfl ?_
        refine z_aload_n C dX5_year_36 0 rfl ?_
        refine z_get C zf_X5_26 dX5_year_37 0 rfl rfl ?_
        obtain ⟨la_height_10, la_drops_11, la_hours_12, k13, hm⟩ := z_b3s hm
        refine z_callVv C (k_X4_copyFrom l G N la_o la_Aheight la_Adrops nw_o nw_Aheight nw_Adrops la_height la_drops la_hours la_restless nw_height nw_drops nw_hours nw_restless h_la_height h_la_drops h_la_hours h_nw_height h_nw_drops h_nw_hours la_height_10 la_drops_11 la_hours_12 k13) zv_X4_copyFrom zl_X5_162 dX5_year_40 [10, 11, 12, 7, 8, 9] rfl rfl rfl (ws' := [(m_o, z_o 5 [.ref tx_o, .ref gr_o, .ref nw_o, .ref og_o, .ref la_o, .ref ss_o, .ref un_o, .ref kp_o, .ref m_AringCell, .ref m_AringDrops, z_i m_rings]), (m_AringCell, z_a G.2.1 6 m_ringCell), (m_AringDrops, z_a G.2.1 6 m_ringDrops), (gr_o, z_o 0 [z_i gr_rows, z_i gr_columns, z_i gr_cells, .ref gr_Akind, .ref gr_Abeside, .ref gr_AbesideBits]), (gr_Akind, z_a G.2.1 36 gr_kind), (gr_Abeside, z_a G.2.1 144 gr_beside), (gr_AbesideBits, z_l G.2.2.1 36 gr_besideBits), (nw_o, z_o 4 [.ref nw_Aheight, .ref nw_Adrops, z_i nw_hours, .long nw_restless]), (nw_Aheight, z_a G.2.1 36 nw_height), (nw_Adrops, z_a G.2.1 36 nw_drops), (la_o, z_o 4 [.ref la_Aheight, .ref la_Adrops, z_i la_hours_12, .long la_restless]), (la_Aheight, z_a G.2.1 36 la_height_10), (la_Adrops, z_a G.2.1 36 la_drops_11), (ss_o, z_o 2 [.ref ss_Astate, .ref ss_Awaiting, z_i ss_waits, z_i ss_cells, z_i ss_many]), (ss_Astate, z_a G.2.1 36 ss_state), (ss_Awaiting, z_a G.2.1 36 ss_waiting)]) rfl 10 rfl rfl rfl [] rfl (Nat.le_of_ble_eq_true rfl) ⟨Nat.le_of_ble_eq_true rfl, Nat.le_of_ble_eq_true rfl⟩ ⟨rfl, rfl⟩ ⟨Nat.zero_le _, Nat.zero_le _⟩ (fun hF => ?_)
        obtain ⟨h_la_height_10, h_la_drops_11, h_la_hours_12, -⟩ := hF
        refine z_iconst C dX5_year_43 ?_
        refine z_istore C dX5_year_44 (by decide) (L' := [(4, z_i 0), (0, .ref m_o), (1, z_i x1), (2, z_i x2), (3, z_i x3)]) rfl ?_
        obtain ⟨o_la_drops_1, o_la_hours_1, o_la_restless_1, hl, hm⟩ := z_b3s hm
        have JX1 : z_r o_la_drops_1 → z_n o_la_hours_1 → z_J X 0 0 ([(m_o, z_o 5 [.ref tx_o, .ref gr_o, .ref nw_o, .ref og_o, .ref la_o, .ref ss_o, .ref un_o, .ref kp_o, .ref m_AringCell, .ref m_AringDrops, z_i m_rings]), (m_AringCell, z_a G.2.1 6 m_ringCell), (m_AringDrops, z_a G.2.1 6 m_ringDrops), (gr_o, z_o 0 [z_i gr_rows, z_i gr_columns, z_i gr_cells, .ref gr_Akind, .ref gr_Abeside, .ref gr_AbesideBits]), (gr_Akind, z_a G.2.1 36 gr_kind), (gr_Abeside, z_a G.2.1 144 gr_beside), (gr_AbesideBits, z_l G.2.2.1 36 gr_besideBits), (nw_o, z_o 4 [.ref nw_Aheight, .ref nw_Adrops, z_i nw_hours, .long nw_restless]), (nw_Aheight, z_a G.2.1 36 nw_height), (nw_Adrops, z_a G.2.1 36 nw_drops), (la_o, z_o 4 [.ref la_Aheight, .ref la_Adrops, z_i o_la_hours_1, .long o_la_restless_1]), (la_Aheight, z_a G.2.1 36 la_height_10), (la_Adrops, z_a G.2.1 36 o_la_drops_1), (ss_o, z_o 2 [.ref ss_Astate, .ref ss_Awaiting, z_i ss_waits, z_i ss_cells, z_i ss_many]), (ss_Astate, z_a G.2.1 36 ss_state), (ss_Awaiting, z_a G.2.1 36 ss_waiting)]) [(0, .ref m_o), (3, z_i x3)] 98 [] := by
          intro h_o_la_drops_1 h_o_la_hours_1
          clear hl
          refine z_iload_n C dX5_year_98 1 rfl ?_
          refine z_iconst C dX5_year_99 ?_
          refine z_icmp_ne (tgt := 115) C h_x3 (z_k 1 rfl) dX5_year_100 (by decide) (fun c28 => ?_) (fun c28 => ?_)
          · have hm := z_pos c28 hm
            refine z_aload_n C dX5_year_115 0 rfl ?_
            refine z_get C zf_X5_39 dX5_year_116 0 rfl rfl ?_
            refine z_aload_n C dX5_year_119 0 rfl ?_
            refine z_get C zf_X5_19 dX5_year_120 0 rfl rfl ?_
            refine z_aload_n C dX5_year_123 0 rfl ?_
            refine z_get C zf_X5_33 dX5_year_124 0 rfl rfl ?_
            obtain ⟨ss_state_29, ss_waiting_30, ss_waits_31, ss_cells_32, ss_many_33, k34, hm⟩ := z_b5s hm
            refine z_callVv C (k_X2_map l G N ss_o ss_Astate ss_Awaiting gr_o gr_Akind gr_Abeside gr_AbesideBits la_o la_Aheight la_Adrops ss_state ss_waiting ss_waits ss_cells ss_many gr_rows gr_columns gr_cells gr_kind gr_beside gr_besideBits la_height_10 o_la_drops_1 o_la_hours_1 o_la_restless_1 h_ss_state h_ss_waiting h_ss_waits h_ss_cells h_ss_many h_gr_rows h_gr_columns h_gr_cells h_gr_kind h_gr_beside h_la_height_10 h_o_la_drops_1 h_o_la_hours_1 ss_state_29 ss_waiting_30 ss_waits_31 ss_cells_32 ss_many_33 k34) zv_X2_map zl_X5_113 dX5_year_127 [13, 14, 15, 3, 4, 5, 6, 10, 11, 12] rfl rfl rfl (ws' := [(m_o, z_o 5 [.ref tx_o, .ref gr_o, .ref nw_o, .ref og_o, .ref la_o, .ref ss_o, .ref un_o, .ref kp_o, .ref m_AringCell, .ref m_AringDrops, z_i m_rings]), (m_AringCell, z_a G.2.1 6 m_ringCell), (m_AringDrops, z_a G.2.1 6 m_ringDrops), (gr_o, z_o 0 [z_i gr_rows, z_i gr_columns, z_i gr_cells, .ref gr_Akind, .ref gr_Abeside, .ref gr_AbesideBits]), (gr_Akind, z_a G.2.1 36 gr_kind), (gr_Abeside, z_a G.2.1 144 gr_beside), (gr_AbesideBits, z_l G.2.2.1 36 gr_besideBits), (nw_o, z_o 4 [.ref nw_Aheight, .ref nw_Adrops, z_i nw_hours, .long nw_restless]), (nw_Aheight, z_a G.2.1 36 nw_height), (nw_Adrops, z_a G.2.1 36 nw_drops), (la_o, z_o 4 [.ref la_Aheight, .ref la_Adrops, z_i o_la_hours_1, .long o_la_restless_1]), (la_Aheight, z_a G.2.1 36 la_height_10), (la_Adrops, z_a G.2.1 36 o_la_drops_1), (ss_o, z_o 2 [.ref ss_Astate, .ref ss_Awaiting, z_i ss_waits_31, z_i ss_cells_32, z_i ss_many_33]), (ss_Astate, z_a G.2.1 36 ss_state_29), (ss_Awaiting, z_a G.2.1 36 ss_waiting_30)]) rfl 13 rfl rfl rfl [] rfl (Nat.le_of_ble_eq_true rfl) ⟨Nat.le_of_ble_eq_true rfl, Nat.le_of_ble_eq_true rfl⟩ ⟨rfl, rfl⟩ ⟨Nat.zero_le _, Nat.zero_le _⟩ (fun hF => ?_)
            obtain ⟨h_ss_state_29, h_ss_waiting_30, h_ss_waits_31, h_ss_cells_32, h_ss_many_33, -⟩ := hF
            refine z_aload_n C dX5_year_130 0 rfl ?_
            refine z_get C zf_X5_39 dX5_year_131 0 rfl rfl ?_
            refine z_get C zf_X5_225 dX5_year_134 13 rfl rfl ?_
            cases hm
            exact z_iret C E dX5_year_137 ⟨rfl, rfl, h_ss_many_33, h_la_height_10, h_o_la_drops_1, h_o_la_hours_1, h_ss_state_29, h_ss_waiting_30, h_ss_waits_31, h_ss_cells_32, h_ss_many_33, trivial⟩
          · have hm := z_neg c28 hm
            refine z_aload_n C dX5_year_103 0 rfl ?_
            refine z_get C zf_X5_33 dX5_year_104 0 rfl rfl ?_
            refine z_aload_n C dX5_year_107 0 rfl ?_
            refine z_get C zf_X5_19 dX5_year_108 0 rfl rfl ?_
            obtain ⟨r35, k36, hm⟩ := z_b1s hm
            refine z_callVi C (k_X4_allDrops l G N la_o la_Aheight la_Adrops gr_o gr_Akind gr_Abeside gr_AbesideBits la_height_10 o_la_drops_1 o_la_hours_1 o_la_restless_1 gr_rows gr_columns gr_cells gr_kind gr_beside gr_besideBits h_la_height_10 h_o_la_drops_1 h_o_la_hours_1 h_gr_rows h_gr_columns h_gr_cells h_gr_kind h_gr_beside r35 k36) zv_X4_allDrops zl_X5_136 dX5_year_111 [10, 11, 12, 3, 4, 5, 6] rfl rfl rfl (ws' := [(m_o, z_o 5 [.ref tx_o, .ref gr_o, .ref nw_o, .ref og_o, .ref la_o, .ref ss_o, .ref un_o, .ref kp_o, .ref m_AringCell, .ref m_AringDrops, z_i m_rings]), (m_AringCell, z_a G.2.1 6 m_ringCell), (m_AringDrops, z_a G.2.1 6 m_ringDrops), (gr_o, z_o 0 [z_i gr_rows, z_i gr_columns, z_i gr_cells, .ref gr_Akind, .ref gr_Abeside, .ref gr_AbesideBits]), (gr_Akind, z_a G.2.1 36 gr_kind), (gr_Abeside, z_a G.2.1 144 gr_beside), (gr_AbesideBits, z_l G.2.2.1 36 gr_besideBits), (nw_o, z_o 4 [.ref nw_Aheight, .ref nw_Adrops, z_i nw_hours, .long nw_restless]), (nw_Aheight, z_a G.2.1 36 nw_height), (nw_Adrops, z_a G.2.1 36 nw_drops), (la_o, z_o 4 [.ref la_Aheight, .ref la_Adrops, z_i o_la_hours_1, .long o_la_restless_1]), (la_Aheight, z_a G.2.1 36 la_height_10), (la_Adrops, z_a G.2.1 36 o_la_drops_1), (ss_o, z_o 2 [.ref ss_Astate, .ref ss_Awaiting, z_i ss_waits, z_i ss_cells, z_i ss_many]), (ss_Astate, z_a G.2.1 36 ss_state), (ss_Awaiting, z_a G.2.1 36 ss_waiting)]) rfl 10 rfl rfl rfl [] rfl (Nat.le_of_ble_eq_true rfl) ⟨Nat.le_of_ble_eq_true rfl, Nat.le_of_ble_eq_true rfl⟩ ⟨rfl, rfl⟩ ⟨Nat.zero_le _, Nat.zero_le _⟩ (fun hF => ?_)
            obtain ⟨h_r35, -⟩ := hF
            cases hm
            exact z_iret C E dX5_year_114 ⟨rfl, rfl, h_r35, h_la_height_10, h_o_la_drops_1, h_o_la_hours_1, h_ss_state, h_ss_waiting, h_ss_waits, h_ss_cells, h_ss_many, trivial⟩
        clear hm
        have L1 : ∀ (n1 : Nat) (v4_1 : Int) (la_drops_1 : (Int → Int)) (la_hours_1 : Int) (la_restless_1 : Int64), z_n v4_1 → z_r la_drops_1 → z_n la_hours_1 → m_X5_year_l1 N x2 x1 la_height_10 gr_cells gr_kind gr_beside gr_besideBits n1 v4_1 la_drops_1 la_hours_1 la_restless_1 = some (o_la_drops_1, o_la_hours_1, o_la_restless_1) → z_J X 0 0 ([(m_o, z_o 5 [.ref tx_o, .ref gr_o, .ref nw_o, .ref og_o, .ref la_o, .ref ss_o, .ref un_o, .ref kp_o, .ref m_AringCell, .ref m_AringDrops, z_i m_rings]), (m_AringCell, z_a G.2.1 6 m_ringCell), (m_AringDrops, z_a G.2.1 6 m_ringDrops), (gr_o, z_o 0 [z_i gr_rows, z_i gr_columns, z_i gr_cells, .ref gr_Akind, .ref gr_Abeside, .ref gr_AbesideBits]), (gr_Akind, z_a G.2.1 36 gr_kind), (gr_Abeside, z_a G.2.1 144 gr_beside), (gr_AbesideBits, z_l G.2.2.1 36 gr_besideBits), (nw_o, z_o 4 [.ref nw_Aheight, .ref nw_Adrops, z_i nw_hours, .long nw_restless]), (nw_Aheight, z_a G.2.1 36 nw_height), (nw_Adrops, z_a G.2.1 36 nw_drops), (la_o, z_o 4 [.ref la_Aheight, .ref la_Adrops, z_i la_hours_1, .long la_restless_1]), (la_Aheight, z_a G.2.1 36 la_height_10), (la_Adrops, z_a G.2.1 36 la_drops_1), (ss_o, z_o 2 [.ref ss_Astate, .ref ss_Awaiting, z_i ss_waits, z_i ss_cells, z_i ss_many]), (ss_Astate, z_a G.2.1 36 ss_state), (ss_Awaiting, z_a G.2.1 36 ss_waiting)]) [(0, .ref m_o), (1, z_i x1), (2, z_i x2), (3, z_i x3), (4, z_i v4_1)] 46 [] := by
          clear hl
          intro n1
          induction n1 with
          | zero =>
            intro v4_1 la_drops_1 la_hours_1 la_restless_1 h_v4_1 h_la_drops_1 h_la_hours_1 hm
            rw [m_X5_year_l1] at hm
            cases hm
          | succ n1 ih1 =>
            intro v4_1 la_drops_1 la_hours_1 la_restless_1 h_v4_1 h_la_drops_1 h_la_hours_1 hm
            rw [m_X5_year_l1] at hm
            refine z_iload C dX5_year_46 4 rfl ?_
            refine z_iload_n C dX5_year_48 2 rfl ?_
            refine z_icmp_ge (tgt := 98) C h_v4_1 h_x2 dX5_year_49 (by decide) (fun c14 => ?_) (fun c14 => ?_)
            · have hm := z_pos c14 hm
              refine z_sub (L' := [(0, .ref m_o), (3, z_i x3)]) [0, 3] rfl ?_
              cases hm
              exact JX1 h_la_drops_1 h_la_hours_1
            · have hm := z_neg c14 hm
              refine z_iload_n C dX5_year_52 1 rfl ?_
              refine z_iload C dX5_year_53 4 rfl ?_
              obtain ⟨r15, k16, hm⟩ := z_b1s hm
              refine z_callSi C (k_X5_drawOf l G N x1 v4_1 h_x1 h_v4_1 r15 k16) zs_X5_drawOf zl_X5_222 dX5_year_55 [] rfl rfl rfl (ws' := [(m_o, z_o 5 [.ref tx_o, .ref gr_o, .ref nw_o, .ref og_o, .ref la_o, .ref ss_o, .ref un_o, .ref kp_o, .ref m_AringCell, .ref m_AringDrops, z_i m_rings]), (m_AringCell, z_a G.2.1 6 m_ringCell), (m_AringDrops, z_a G.2.1 6 m_ringDrops), (gr_o, z_o 0 [z_i gr_rows, z_i gr_columns, z_i gr_cells, .ref gr_Akind, .ref gr_Abeside, .ref gr_AbesideBits]), (gr_Akind, z_a G.2.1 36 gr_kind), (gr_Abeside, z_a G.2.1 144 gr_beside), (gr_AbesideBits, z_l G.2.2.1 36 gr_besideBits), (nw_o, z_o 4 [.ref nw_Aheight, .ref nw_Adrops, z_i nw_hours, .long nw_restless]), (nw_Aheight, z_a G.2.1 36 nw_height), (nw_Adrops, z_a G.2.1 36 nw_drops), (la_o, z_o 4 [.ref la_Aheight, .ref la_Adrops, z_i la_hours_1, .long la_restless_1]), (la_Aheight, z_a G.2.1 36 la_height_10), (la_Adrops, z_a G.2.1 36 la_drops_1), (ss_o, z_o 2 [.ref ss_Astate, .ref ss_Awaiting, z_i ss_waits, z_i ss_cells, z_i ss_many]), (ss_Astate, z_a G.2.1 36 ss_state), (ss_Awaiting, z_a G.2.1 36 ss_waiting)]) rfl rfl [] rfl (Nat.le_of_ble_eq_true rfl) ⟨Nat.le_of_ble_eq_true rfl, Nat.le_of_ble_eq_true rfl⟩ ⟨rfl, rfl⟩ ⟨Nat.zero_le _, Nat.zero_le _⟩ (fun hF => ?_)
              obtain ⟨h_r15, -⟩ := hF
              refine z_istore C dX5_year_58 (by decide) (L' := [(5, z_i r15), (0, .ref m_o), (1, z_i x1), (2, z_i x2), (3, z_i x3), (4, z_i v4_1)]) rfl ?_
              refine z_aload_n C dX5_year_60 1 rfl ?_
              refine z_get C zf_X5_33 dX5_year_61 0 rfl rfl ?_
              refine z_aload_n C dX5_year_64 1 rfl ?_
              refine z_get C zf_X5_19 dX5_year_65 0 rfl rfl ?_
              refine z_iload C dX5_year_68 0 rfl ?_
              refine z_iconst C dX5_year_70 ?_
              obtain ⟨c17, hm⟩ := z_chk_some hm
              refine z_irem C h_r15 (z_k 4 rfl) (by decide) dX5_year_71 ?_
              obtain ⟨la_drops_18, la_restless_19, k20, hm⟩ := z_b2s hm
              refine z_callVv C (k_X4_pour l G N la_o la_Aheight la_Adrops gr_o gr_Akind gr_Abeside gr_AbesideBits la_height_10 la_drops_1 la_hours_1 la_restless_1 gr_rows gr_columns gr_cells gr_kind gr_beside gr_besideBits (Int.tmod r15 4) h_la_height_10 h_la_drops_1 h_la_hours_1 h_gr_rows h_gr_columns h_gr_cells h_gr_kind h_gr_beside c17 la_drops_18 la_restless_19 k20) zv_X4_pour zl_X5_132 dX5_year_72 [10, 11, 12, 3, 4, 5, 6] rfl rfl rfl (ws' := [(m_o, z_o 5 [.ref tx_o, .ref gr_o, .ref nw_o, .ref og_o, .ref la_o, .ref ss_o, .ref un_o, .ref kp_o, .ref m_AringCell, .ref m_AringDrops, z_i m_rings]), (m_AringCell, z_a G.2.1 6 m_ringCell), (m_AringDrops, z_a G.2.1 6 m_ringDrops), (gr_o, z_o 0 [z_i gr_rows, z_i gr_columns, z_i gr_cells, .ref gr_Akind, .ref gr_Abeside, .ref gr_AbesideBits]), (gr_Akind, z_a G.2.1 36 gr_kind), (gr_Abeside, z_a G.2.1 144 gr_beside), (gr_AbesideBits, z_l G.2.2.1 36 gr_besideBits), (nw_o, z_o 4 [.ref nw_Aheight, .ref nw_Adrops, z_i nw_hours, .long nw_restless]), (nw_Aheight, z_a G.2.1 36 nw_height), (nw_Adrops, z_a G.2.1 36 nw_drops), (la_o, z_o 4 [.ref la_Aheight, .ref la_Adrops, z_i la_hours_1, .long la_restless_19]), (la_Aheight, z_a G.2.1 36 la_height_10), (la_Adrops, z_a G.2.1 36 la_drops_18), (ss_o, z_o 2 [.ref ss_Astate, .ref ss_Awaiting, z_i ss_waits, z_i ss_cells, z_i ss_many]), (ss_Astate, z_a G.2.1 36 ss_state), (ss_Awaiting, z_a G.2.1 36 ss_waiting)]) rfl 10 rfl rfl rfl [] rfl (Nat.le_of_ble_eq_true rfl) ⟨Nat.le_of_ble_eq_true rfl, Nat.le_of_ble_eq_true rfl⟩ ⟨rfl, rfl⟩ ⟨Nat.zero_le _, Nat.zero_le _⟩ (fun hF => ?_)
              obtain ⟨h_la_drops_18, -⟩ := hF
              refine z_aload_n C dX5_year_75 1 rfl ?_
              refine z_get C zf_X5_33 dX5_year_76 0 rfl rfl ?_
              refine z_aload_n C dX5_year_79 1 rfl ?_
              refine z_get C zf_X5_19 dX5_year_80 0 rfl rfl ?_
              refine z_iload C dX5_year_83 0 rfl ?_
              refine z_iconst C dX5_year_85 ?_
              obtain ⟨c21, hm⟩ := z_chk_some hm
              refine z_idiv C h_r15 (z_k 4 rfl) (by decide) dX5_year_86 ?_
              refine z_iconst C dX5_year_87 ?_
              obtain ⟨c22, hm⟩ := z_chk_some hm
              refine z_irem C c21 (z_k 4 rfl) (by decide) dX5_year_88 ?_
              obtain ⟨la_drops_23, la_hours_24, la_restless_25, k26, hm⟩ := z_b3s hm
              refine z_callVv C (k_X4_passHours l G N la_o la_Aheight la_Adrops gr_o gr_Akind gr_Abeside gr_AbesideBits la_height_10 la_drops_18 la_hours_1 la_restless_19 gr_rows gr_columns gr_cells gr_kind gr_beside gr_besideBits (Int.tmod (Int.tdiv r15 4) 4) h_la_height_10 h_la_drops_18 h_la_hours_1 h_gr_rows h_gr_columns h_gr_cells h_gr_kind h_gr_beside c22 la_drops_23 la_hours_24 la_restless_25 k26) zv_X4_passHours zl_X5_140 dX5_year_89 [10, 11, 12, 3, 4, 5, 6] rfl rfl rfl (ws' := [(m_o, z_o 5 [.ref tx_o, .ref gr_o, .ref nw_o, .ref og_o, .ref la_o, .ref ss_o, .ref un_o, .ref kp_o, .ref m_AringCell, .ref m_AringDrops, z_i m_rings]), (m_AringCell, z_a G.2.1 6 m_ringCell), (m_AringDrops, z_a G.2.1 6 m_ringDrops), (gr_o, z_o 0 [z_i gr_rows, z_i gr_columns, z_i gr_cells, .ref gr_Akind, .ref gr_Abeside, .ref gr_AbesideBits]), (gr_Akind, z_a G.2.1 36 gr_kind), (gr_Abeside, z_a G.2.1 144 gr_beside), (gr_AbesideBits, z_l G.2.2.1 36 gr_besideBits), (nw_o, z_o 4 [.ref nw_Aheight, .ref nw_Adrops, z_i nw_hours, .long nw_restless]), (nw_Aheight, z_a G.2.1 36 nw_height), (nw_Adrops, z_a G.2.1 36 nw_drops), (la_o, z_o 4 [.ref la_Aheight, .ref la_Adrops, z_i la_hours_24, .long la_restless_25]), (la_Aheight, z_a G.2.1 36 la_height_10), (la_Adrops, z_a G.2.1 36 la_drops_23), (ss_o, z_o 2 [.ref ss_Astate, .ref ss_Awaiting, z_i ss_waits, z_i ss_cells, z_i ss_many]), (ss_Astate, z_a G.2.1 36 ss_state), (ss_Awaiting, z_a G.2.1 36 ss_waiting)]) rfl 10 rfl rfl rfl [] rfl (Nat.le_of_ble_eq_true rfl) ⟨Nat.le_of_ble_eq_true rfl, Nat.le_of_ble_eq_true rfl⟩ ⟨rfl, rfl⟩ ⟨Nat.zero_le _, Nat.zero_le _⟩ (fun hF => ?_)
              obtain ⟨h_la_drops_23, h_la_hours_24, -⟩ := hF
              obtain ⟨c27, hm⟩ := z_chk_some hm
              refine z_iinc C dX5_year_92 5 rfl (by decide) (L' := [(4, z_i (v4_1 + 1)), (5, z_i r15), (0, .ref m_o), (1, z_i x1), (2, z_i x2), (3, z_i x3)]) rfl ?_
              refine z_goto (tgt := 46) C dX5_year_95 (by decide) ?_
              refine z_sub (L' := [(0, .ref m_o), (1, z_i x1), (2, z_i x2), (3, z_i x3), (4, z_i (v4_1 + 1))]) [2, 3, 4, 5, 0] rfl ?_
              exact ih1 (v4_1 + 1) la_drops_23 la_hours_24 la_restless_25 c27 h_la_drops_23 h_la_hours_24 hm
        refine z_sub (L' := [(0, .ref m_o), (1, z_i x1), (2, z_i x2), (3, z_i x3), (4, z_i 0)]) [1, 2, 3, 4, 0] rfl ?_
        exact L1 N 0 la_drops_11 la_hours_12 la_restless (z_k 0 rfl) h_la_drops_11 h_la_hours_12 hl
      · have hm := z_neg c9 hm
        refine z_iconst C dX5_year_30 ?_
        cases hm
        exact z_iret C E dX5_year_31 ⟨rfl, rfl, (z_k (-1) rfl), h_la_height, h_la_drops, h_la_hours, h_ss_state, h_ss_waiting, h_ss_waits, h_ss_cells, h_ss_many, trivial⟩
set_option maxRecDepth 100000 in
theorem k_X5_keep (l : Launch) (G : z_G) (N : Nat) (m_o tx_o gr_o nw_o og_o la_o ss_o un_o kp_o m_AringCell m_AringDrops nw_Aheight nw_Adrops kp_Aheights kp_Adrops kp_Ahours : Nat) (m_ringCell : (Int → Int)) (m_ringDrops : (Int → Int)) (m_rings : Int) (nw_height : (Int → Int)) (nw_drops : (Int → Int)) (nw_hours : Int) (nw_restless : Int64) (kp_heights : (Int → Int)) (kp_drops : (Int → Int)) (kp_hours : (Int → Int)) (kp_many : Int) (h_m_ringCell : z_r m_ringCell) (h_m_ringDrops : z_r m_ringDrops) (h_m_rings : z_n m_rings) (h_nw_height : z_r nw_height) (h_nw_drops : z_r nw_drops) (h_nw_hours : z_n nw_hours) (h_kp_heights : z_r kp_heights) (h_kp_drops : z_r kp_drops) (h_kp_hours : z_r kp_hours) (h_kp_many : z_n kp_many) (rr : Int) (q_kp_heights : (Int → Int)) (q_kp_drops : (Int → Int)) (q_kp_hours : (Int → Int)) (q_kp_many : Int) (hm : m_X5_keep N nw_height nw_drops nw_hours kp_heights kp_drops kp_hours kp_many = some (rr, q_kp_heights, q_kp_drops, q_kp_hours, q_kp_many)) : z_M l G yX5_keep cX5_keep 1 (some .int) (k2_rm 3 67) [.ref m_o] ([(m_o, z_o 5 [.ref tx_o, .ref gr_o, .ref nw_o, .ref og_o, .ref la_o, .ref ss_o, .ref un_o, .ref kp_o, .ref m_AringCell, .ref m_AringDrops, z_i m_rings]), (m_AringCell, z_a G.2.1 6 m_ringCell), (m_AringDrops, z_a G.2.1 6 m_ringDrops), (nw_o, z_o 4 [.ref nw_Aheight, .ref nw_Adrops, z_i nw_hours, .long nw_restless]), (nw_Aheight, z_a G.2.1 36 nw_height), (nw_Adrops, z_a G.2.1 36 nw_drops), (kp_o, z_o 1 [.ref kp_Aheights, .ref kp_Adrops, .ref kp_Ahours, z_i kp_many]), (kp_Aheights, z_a G.2.1 288 kp_heights), (kp_Adrops, z_a G.2.1 288 kp_drops), (kp_Ahours, z_a G.2.1 8 kp_hours)]) 0 0 (fun v w => v = some (z_i rr) ∧ w = [(m_o, z_o 5 [.ref tx_o, .ref gr_o, .ref nw_o, .ref og_o, .ref la_o, .ref ss_o, .ref un_o, .ref kp_o, .ref m_AringCell, .ref m_AringDrops, z_i m_rings]), (m_AringCell, z_a G.2.1 6 m_ringCell), (m_AringDrops, z_a G.2.1 6 m_ringDrops), (nw_o, z_o 4 [.ref nw_Aheight, .ref nw_Adrops, z_i nw_hours, .long nw_restless]), (nw_Aheight, z_a G.2.1 36 nw_height), (nw_Adrops, z_a G.2.1 36 nw_drops), (kp_o, z_o 1 [.ref kp_Aheights, .ref kp_Adrops, .ref kp_Ahours, z_i q_kp_many]), (kp_Aheights, z_a G.2.1 288 q_kp_heights), (kp_Adrops, z_a G.2.1 288 q_kp_drops), (kp_Ahours, z_a G.2.1 8 q_kp_hours)] ∧ z_n rr ∧ z_r q_kp_heights ∧ z_r q_kp_drops ∧ z_r q_kp_hours ∧ z_n q_kp_many ∧ True) := by
  unfold m_X5_keep at hm
  refine z_M.intro (by decide +kernel) (Nat.le_of_ble_eq_true rfl) (L := [(0, .ref m_o)]) rfl (fun X C E => ?_)
  refine z_aload_n C dX5_keep_0 0 rfl ?_
  refine z_get C zf_X5_50 dX5_keep_1 0 rfl rfl ?_
  refine z_get C zf_X5_156 dX5_keep_4 6 rfl rfl ?_
  refine z_iconst C dX5_keep_7 ?_
  refine z_icmp_lt (tgt := 14) C h_kp_many (z_k 2 rfl) dX5_keep_8 (by decide) (fun c1 => ?_) (fun c1 => ?_)
  · have hm := z_pos c1 hm
    refine z_aload_n C dX5_keep_14 0 rfl ?_
    refine z_get C zf_X5_50 dX5_keep_15 0 rfl rfl ?_
    refine z_aload_n C dX5_keep_18 0 rfl ?_
    refine z_get C zf_X5_26 dX5_keep_19 0 rfl rfl ?_
    obtain ⟨kp_heights_2, kp_drops_3, kp_hours_4, kp_many_5, k6, hm⟩ := z_b4s hm
    refine z_callVv C (k_X1_push l G N kp_o kp_Aheights kp_Adrops kp_Ahours nw_o nw_Aheight nw_Adrops kp_heights kp_drops kp_hours kp_many nw_height nw_drops nw_hours nw_restless h_kp_heights h_kp_drops h_kp_hours h_kp_many h_nw_height h_nw_drops h_nw_hours kp_heights_2 kp_drops_3 kp_hours_4 kp_many_5 k6) zv_X1_push zl_X5_128 dX5_keep_22 [6, 7, 8, 9, 3, 4, 5] rfl rfl rfl (ws' := [(m_o, z_o 5 [.ref tx_o, .ref gr_o, .ref nw_o, .ref og_o, .ref la_o, .ref ss_o, .ref un_o, .ref kp_o, .ref m_AringCell, .ref m_AringDrops, z_i m_rings]), (m_AringCell, z_a G.2.1 6 m_ringCell), (m_AringDrops, z_a G.2.1 6 m_ringDrops), (nw_o, z_o 4 [.ref nw_Aheight, .ref nw_Adrops, z_i nw_hours, .long nw_restless]), (nw_Aheight, z_a G.2.1 36 nw_height), (nw_Adrops, z_a G.2.1 36 nw_drops), (kp_o, z_o 1 [.ref kp_Aheights, .ref kp_Adrops, .ref kp_Ahours, z_i kp_many_5]), (kp_Aheights, z_a G.2.1 288 kp_heights_2), (kp_Adrops, z_a G.2.1 288 kp_drops_3), (kp_Ahours, z_a G.2.1 8 kp_hours_4)]) rfl 6 rfl rfl rfl [] rfl (Nat.le_of_ble_eq_true rfl) ⟨Nat.le_of_ble_eq_true rfl, Nat.le_of_ble_eq_true rfl⟩ ⟨rfl, rfl⟩ ⟨Nat.zero_le _, Nat.zero_le _⟩ (fun hF => ?_)
    obtain ⟨h_kp_heights_2, h_kp_drops_3, h_kp_hours_4, h_kp_many_5, -⟩ := hF
    refine z_aload_n C dX5_keep_25 0 rfl ?_
    refine z_get C zf_X5_50 dX5_keep_26 0 rfl rfl ?_
    refine z_get C zf_X5_156 dX5_keep_29 6 rfl rfl ?_
    cases hm
    exact z_iret C E dX5_keep_32 ⟨rfl, rfl, h_kp_many_5, h_kp_heights_2, h_kp_drops_3, h_kp_hours_4, h_kp_many_5, trivial⟩
  · have hm := z_neg c1 hm
    refine z_bipush C dX5_keep_11 (by decide) ?_
    cases hm
    exact z_iret C E dX5_keep_13 ⟨rfl, rfl, (z_k (-3) rfl), h_kp_heights, h_kp_drops, h_kp_hours, h_kp_many, trivial⟩
set_option maxRecDepth 100000 in
theorem k_X5_back (l : Launch) (G : z_G) (N : Nat) (m_o tx_o gr_o nw_o og_o la_o ss_o un_o kp_o m_AringCell m_AringDrops nw_Aheight nw_Adrops un_Aheights un_Adrops un_Ahours kp_Aheights kp_Adrops kp_Ahours : Nat) (m_ringCell : (Int → Int)) (m_ringDrops : (Int → Int)) (m_rings : Int) (nw_height : (Int → Int)) (nw_drops : (Int → Int)) (nw_hours : Int) (nw_restless : Int64) (un_heights : (Int → Int)) (un_drops : (Int → Int)) (un_hours : (Int → Int)) (un_many : Int) (kp_heights : (Int → Int)) (kp_drops : (Int → Int)) (kp_hours : (Int → Int)) (kp_many : Int) (h_m_ringCell : z_r m_ringCell) (h_m_ringDrops : z_r m_ringDrops) (h_m_rings : z_n m_rings) (h_nw_height : z_r nw_height) (h_nw_drops : z_r nw_drops) (h_nw_hours : z_n nw_hours) (h_un_heights : z_r un_heights) (h_un_drops : z_r un_drops) (h_un_hours : z_r un_hours) (h_un_many : z_n un_many) (h_kp_heights : z_r kp_heights) (h_kp_drops : z_r kp_drops) (h_kp_hours : z_r kp_hours) (h_kp_many : z_n kp_many) (rr : Int) (q_nw_height : (Int → Int)) (q_nw_drops : (Int → Int)) (q_nw_hours : Int) (q_un_many : Int) (q_kp_many : Int) (hm : m_X5_back N nw_height nw_drops nw_hours un_many kp_heights kp_drops kp_hours kp_many = some (rr, q_nw_height, q_nw_drops, q_nw_hours, q_un_many, q_kp_many)) : z_M l G yX5_back cX5_back 1 (some .int) (k2_rm 2 47) [.ref m_o] ([(m_o, z_o 5 [.ref tx_o, .ref gr_o, .ref nw_o, .ref og_o, .ref la_o, .ref ss_o, .ref un_o, .ref kp_o, .ref m_AringCell, .ref m_AringDrops, z_i m_rings]), (m_AringCell, z_a G.2.1 6 m_ringCell), (m_AringDrops, z_a G.2.1 6 m_ringDrops), (nw_o, z_o 4 [.ref nw_Aheight, .ref nw_Adrops, z_i nw_hours, .long nw_restless]), (nw_Aheight, z_a G.2.1 36 nw_height), (nw_Adrops, z_a G.2.1 36 nw_drops), (un_o, z_o 1 [.ref un_Aheights, .ref un_Adrops, .ref un_Ahours, z_i un_many]), (un_Aheights, z_a G.2.1 288 un_heights), (un_Adrops, z_a G.2.1 288 un_drops), (un_Ahours, z_a G.2.1 8 un_hours), (kp_o, z_o 1 [.ref kp_Aheights, .ref kp_Adrops, .ref kp_Ahours, z_i kp_many]), (kp_Aheights, z_a G.2.1 288 kp_heights), (kp_Adrops, z_a G.2.1 288 kp_drops), (kp_Ahours, z_a G.2.1 8 kp_hours)]) 0 0 (fun v w => v = some (z_i rr) ∧ w = [(m_o, z_o 5 [.ref tx_o, .ref gr_o, .ref nw_o, .ref og_o, .ref la_o, .ref ss_o, .ref un_o, .ref kp_o, .ref m_AringCell, .ref m_AringDrops, z_i m_rings]), (m_AringCell, z_a G.2.1 6 m_ringCell), (m_AringDrops, z_a G.2.1 6 m_ringDrops), (nw_o, z_o 4 [.ref nw_Aheight, .ref nw_Adrops, z_i q_nw_hours, .long nw_restless]), (nw_Aheight, z_a G.2.1 36 q_nw_height), (nw_Adrops, z_a G.2.1 36 q_nw_drops), (un_o, z_o 1 [.ref un_Aheights, .ref un_Adrops, .ref un_Ahours, z_i q_un_many]), (un_Aheights, z_a G.2.1 288 un_heights), (un_Adrops, z_a G.2.1 288 un_drops), (un_Ahours, z_a G.2.1 8 un_hours), (kp_o, z_o 1 [.ref kp_Aheights, .ref kp_Adrops, .ref kp_Ahours, z_i q_kp_many]), (kp_Aheights, z_a G.2.1 288 kp_heights), (kp_Adrops, z_a G.2.1 288 kp_drops), (kp_Ahours, z_a G.2.1 8 kp_hours)] ∧ z_n rr ∧ z_r q_nw_height ∧ z_r q_nw_drops ∧ z_n q_nw_hours ∧ z_n q_un_many ∧ z_n q_kp_many ∧ True) := by
  unfold m_X5_back at hm
  refine z_M.intro (by decide +kernel) (Nat.le_of_ble_eq_true rfl) (L := [(0, .ref m_o)]) rfl (fun X C E => ?_)
  refine z_aload_n C dX5_back_0 0 rfl ?_
  refine z_get C zf_X5_50 dX5_back_1 0 rfl rfl ?_
  refine z_get C zf_X5_156 dX5_back_4 10 rfl rfl ?_
  refine z_if_ne (tgt := 13) C h_kp_many dX5_back_7 (by decide) (fun c1 => ?_) (fun c1 => ?_)
  · have hm := z_pos c1 hm
    refine z_aload_n C dX5_back_13 0 rfl ?_
    refine z_get C zf_X5_50 dX5_back_14 0 rfl rfl ?_
    refine z_aload_n C dX5_back_17 0 rfl ?_
    refine z_get C zf_X5_26 dX5_back_18 0 rfl rfl ?_
    obtain ⟨kp_many_2, nw_height_3, nw_drops_4, nw_hours_5, k6, hm⟩ := z_b4s hm
    refine z_callVv C (k_X1_pop l G N kp_o kp_Aheights kp_Adrops kp_Ahours nw_o nw_Aheight nw_Adrops kp_heights kp_drops kp_hours kp_many nw_height nw_drops nw_hours nw_restless h_kp_heights h_kp_drops h_kp_hours h_kp_many h_nw_height h_nw_drops h_nw_hours kp_many_2 nw_height_3 nw_drops_4 nw_hours_5 k6) zv_X1_pop zl_X5_159 dX5_back_21 [10, 11, 12, 13, 3, 4, 5] rfl rfl rfl (ws' := [(m_o, z_o 5 [.ref tx_o, .ref gr_o, .ref nw_o, .ref og_o, .ref la_o, .ref ss_o, .ref un_o, .ref kp_o, .ref m_AringCell, .ref m_AringDrops, z_i m_rings]), (m_AringCell, z_a G.2.1 6 m_ringCell), (m_AringDrops, z_a G.2.1 6 m_ringDrops), (nw_o, z_o 4 [.ref nw_Aheight, .ref nw_Adrops, z_i nw_hours_5, .long nw_restless]), (nw_Aheight, z_a G.2.1 36 nw_height_3), (nw_Adrops, z_a G.2.1 36 nw_drops_4), (un_o, z_o 1 [.ref un_Aheights, .ref un_Adrops, .ref un_Ahours, z_i un_many]), (un_Aheights, z_a G.2.1 288 un_heights), (un_Adrops, z_a G.2.1 288 un_drops), (un_Ahours, z_a G.2.1 8 un_hours), (kp_o, z_o 1 [.ref kp_Aheights, .ref kp_Adrops, .ref kp_Ahours, z_i kp_many_2]), (kp_Aheights, z_a G.2.1 288 kp_heights), (kp_Adrops, z_a G.2.1 288 kp_drops), (kp_Ahours, z_a G.2.1 8 kp_hours)]) rfl 10 rfl rfl rfl [] rfl (Nat.le_of_ble_eq_true rfl) ⟨Nat.le_of_ble_eq_true rfl, Nat.le_of_ble_eq_true rfl⟩ ⟨rfl, rfl⟩ ⟨Nat.zero_le _, Nat.zero_le _⟩ (fun hF => ?_)
    obtain ⟨h_kp_many_2, h_nw_height_3, h_nw_drops_4, h_nw_hours_5, -⟩ := hF
    refine z_aload_n C dX5_back_24 0 rfl ?_
    refine z_get C zf_X5_46 dX5_back_25 0 rfl rfl ?_
    refine z_iconst C dX5_back_28 ?_
    refine z_puti C zf_X5_156 dX5_back_29 6 rfl rfl (ws' := [(m_o, z_o 5 [.ref tx_o, .ref gr_o, .ref nw_o, .ref og_o, .ref la_o, .ref ss_o, .ref un_o, .ref kp_o, .ref m_AringCell, .ref m_AringDrops, z_i m_rings]), (m_AringCell, z_a G.2.1 6 m_ringCell), (m_AringDrops, z_a G.2.1 6 m_ringDrops), (nw_o, z_o 4 [.ref nw_Aheight, .ref nw_Adrops, z_i nw_hours_5, .long nw_restless]), (nw_Aheight, z_a G.2.1 36 nw_height_3), (nw_Adrops, z_a G.2.1 36 nw_drops_4), (un_o, z_o 1 [.ref un_Aheights, .ref un_Adrops, .ref un_Ahours, z_i 0]), (un_Aheights, z_a G.2.1 288 un_heights), (un_Adrops, z_a G.2.1 288 un_drops), (un_Ahours, z_a G.2.1 8 un_hours), (kp_o, z_o 1 [.ref kp_Aheights, .ref kp_Adrops, .ref kp_Ahours, z_i kp_many_2]), (kp_Aheights, z_a G.2.1 288 kp_heights), (kp_Adrops, z_a G.2.1 288 kp_drops), (kp_Ahours, z_a G.2.1 8 kp_hours)]) rfl ?_
    refine z_aload_n C dX5_back_32 0 rfl ?_
    refine z_get C zf_X5_50 dX5_back_33 0 rfl rfl ?_
    refine z_get C zf_X5_156 dX5_back_36 10 rfl rfl ?_
    cases hm
    exact z_iret C E dX5_back_39 ⟨rfl, rfl, h_kp_many_2, h_nw_height_3, h_nw_drops_4, h_nw_hours_5, (z_k 0 rfl), h_kp_many_2, trivial⟩
  · have hm := z_neg c1 hm
    refine z_bipush C dX5_back_10 (by decide) ?_
    cases hm
    exact z_iret C E dX5_back_12 ⟨rfl, rfl, (z_k (-2) rfl), h_nw_height, h_nw_drops, h_nw_hours, h_un_many, h_kp_many, trivial⟩
set_option maxRecDepth 100000 in
theorem k_X5_count (l : Launch) (G : z_G) (N : Nat) (m_o tx_o gr_o nw_o og_o la_o ss_o un_o kp_o m_AringCell m_AringDrops tx_Aletters gr_Akind gr_Abeside gr_AbesideBits nw_Aheight nw_Adrops ss_Astate ss_Awaiting un_Aheights un_Adrops un_Ahours kp_Aheights kp_Adrops kp_Ahours : Nat) (m_ringCell : (Int → Int)) (m_ringDrops : (Int → Int)) (m_rings : Int) (tx_letters : (Int → Int)) (tx_length : Int) (tx_at : Int) (gr_rows : Int) (gr_columns : Int) (gr_cells : Int) (gr_kind : (Int → Int)) (gr_beside : (Int → Int)) (gr_besideBits : (Int → Int64)) (nw_height : (Int → Int)) (nw_drops : (Int → Int)) (nw_hours : Int) (nw_restless : Int64) (ss_state : (Int → Int)) (ss_waiting : (Int → Int)) (ss_waits : Int) (ss_cells : Int) (ss_many : Int) (un_heights : (Int → Int)) (un_drops : (Int → Int)) (un_hours : (Int → Int)) (un_many : Int) (kp_heights : (Int → Int)) (kp_drops : (Int → Int)) (kp_hours : (Int → Int)) (kp_many : Int) (x1 : Int) (h_m_ringCell : z_r m_ringCell) (h_m_ringDrops : z_r m_ringDrops) (h_m_rings : z_n m_rings) (h_tx_letters : z_r tx_letters) (h_tx_length : z_n tx_length) (h_tx_at : z_n tx_at) (h_gr_rows : z_n gr_rows) (h_gr_columns : z_n gr_columns) (h_gr_cells : z_n gr_cells) (h_gr_kind : z_r gr_kind) (h_gr_beside : z_r gr_beside) (h_nw_height : z_r nw_height) (h_nw_drops : z_r nw_drops) (h_nw_hours : z_n nw_hours) (h_ss_state : z_r ss_state) (h_ss_waiting : z_r ss_waiting) (h_ss_waits : z_n ss_waits) (h_ss_cells : z_n ss_cells) (h_ss_many : z_n ss_many) (h_un_heights : z_r un_heights) (h_un_drops : z_r un_drops) (h_un_hours : z_r un_hours) (h_un_many : z_n un_many) (h_kp_heights : z_r kp_heights) (h_kp_drops : z_r kp_drops) (h_kp_hours : z_r kp_hours) (h_kp_many : z_n kp_many) (h_x1 : z_n x1) (rr : Int) (q_ss_state : (Int → Int)) (q_ss_waiting : (Int → Int)) (q_ss_waits : Int) (q_ss_cells : Int) (q_ss_many : Int) (hm : m_X5_count N m_rings tx_length gr_rows gr_cells gr_beside nw_drops nw_hours ss_state ss_waiting ss_waits ss_cells ss_many un_many kp_many x1 = some (rr, q_ss_state, q_ss_waiting, q_ss_waits, q_ss_cells, q_ss_many)) : z_M l G yX5_count cX5_count 2 (some .int) (k2_rm 3 72) [.ref m_o, z_i x1] ([(m_o, z_o 5 [.ref tx_o, .ref gr_o, .ref nw_o, .ref og_o, .ref la_o, .ref ss_o, .ref un_o, .ref kp_o, .ref m_AringCell, .ref m_AringDrops, z_i m_rings]), (m_AringCell, z_a G.2.1 6 m_ringCell), (m_AringDrops, z_a G.2.1 6 m_ringDrops), (tx_o, z_o 3 [.ref tx_Aletters, z_i tx_length, z_i tx_at]), (tx_Aletters, z_a G.2.2.2.1 200 tx_letters), (gr_o, z_o 0 [z_i gr_rows, z_i gr_columns, z_i gr_cells, .ref gr_Akind, .ref gr_Abeside, .ref gr_AbesideBits]), (gr_Akind, z_a G.2.1 36 gr_kind), (gr_Abeside, z_a G.2.1 144 gr_beside), (gr_AbesideBits, z_l G.2.2.1 36 gr_besideBits), (nw_o, z_o 4 [.ref nw_Aheight, .ref nw_Adrops, z_i nw_hours, .long nw_restless]), (nw_Aheight, z_a G.2.1 36 nw_height), (nw_Adrops, z_a G.2.1 36 nw_drops), (ss_o, z_o 2 [.ref ss_Astate, .ref ss_Awaiting, z_i ss_waits, z_i ss_cells, z_i ss_many]), (ss_Astate, z_a G.2.1 36 ss_state), (ss_Awaiting, z_a G.2.1 36 ss_waiting), (un_o, z_o 1 [.ref un_Aheights, .ref un_Adrops, .ref un_Ahours, z_i un_many]), (un_Aheights, z_a G.2.1 288 un_heights), (un_Adrops, z_a G.2.1 288 un_drops), (un_Ahours, z_a G.2.1 8 un_hours), (kp_o, z_o 1 [.ref kp_Aheights, .ref kp_Adrops, .ref kp_Ahours, z_i kp_many]), (kp_Aheights, z_a G.2.1 288 kp_heights), (kp_Adrops, z_a G.2.1 288 kp_drops), (kp_Ahours, z_a G.2.1 8 kp_hours)]) 0 0 (fun v w => v = some (z_i rr) ∧ w = [(m_o, z_o 5 [.ref tx_o, .ref gr_o, .ref nw_o, .ref og_o, .ref la_o, .ref ss_o, .ref un_o, .ref kp_o, .ref m_AringCell, .ref m_AringDrops, z_i m_rings]), (m_AringCell, z_a G.2.1 6 m_ringCell), (m_AringDrops, z_a G.2.1 6 m_ringDrops), (tx_o, z_o 3 [.ref tx_Aletters, z_i tx_length, z_i tx_at]), (tx_Aletters, z_a G.2.2.2.1 200 tx_letters), (gr_o, z_o 0 [z_i gr_rows, z_i gr_columns, z_i gr_cells, .ref gr_Akind, .ref gr_Abeside, .ref gr_AbesideBits]), (gr_Akind, z_a G.2.1 36 gr_kind), (gr_Abeside, z_a G.2.1 144 gr_beside), (gr_AbesideBits, z_l G.2.2.1 36 gr_besideBits), (nw_o, z_o 4 [.ref nw_Aheight, .ref nw_Adrops, z_i nw_hours, .long nw_restless]), (nw_Aheight, z_a G.2.1 36 nw_height), (nw_Adrops, z_a G.2.1 36 nw_drops), (ss_o, z_o 2 [.ref ss_Astate, .ref ss_Awaiting, z_i q_ss_waits, z_i q_ss_cells, z_i q_ss_many]), (ss_Astate, z_a G.2.1 36 q_ss_state), (ss_Awaiting, z_a G.2.1 36 q_ss_waiting), (un_o, z_o 1 [.ref un_Aheights, .ref un_Adrops, .ref un_Ahours, z_i un_many]), (un_Aheights, z_a G.2.1 288 un_heights), (un_Adrops, z_a G.2.1 288 un_drops), (un_Ahours, z_a G.2.1 8 un_hours), (kp_o, z_o 1 [.ref kp_Aheights, .ref kp_Adrops, .ref kp_Ahours, z_i kp_many]), (kp_Aheights, z_a G.2.1 288 kp_heights), (kp_Adrops, z_a G.2.1 288 kp_drops), (kp_Ahours, z_a G.2.1 8 kp_hours)] ∧ z_n rr ∧ z_r q_ss_state ∧ z_r q_ss_waiting ∧ z_n q_ss_waits ∧ z_n q_ss_cells ∧ z_n q_ss_many ∧ True) := by
  unfold m_X5_count at hm
  refine z_M.intro (by decide +kernel) (Nat.le_of_ble_eq_true rfl) (L := [(0, .ref m_o), (1, z_i x1)]) rfl (fun X C E => ?_)
  refine z_iload_n C dX5_count_0 1 rfl ?_
  rcases z_ite hm with ⟨cs1_0, hm⟩ | ⟨cs1_0, hm⟩
  · refine z_tabIn (tgt := 56) C h_x1 dX5_count_1 0 cs1_0 (by decide) rfl (by decide) ?_
    refine z_aload_n C dX5_count_56 0 rfl ?_
    refine z_get C zf_X5_19 dX5_count_57 0 rfl rfl ?_
    refine z_get C zf_X5_93 dX5_count_60 5 rfl rfl ?_
    cases hm
    exact z_iret C E dX5_count_63 ⟨rfl, rfl, h_gr_cells, h_ss_state, h_ss_waiting, h_ss_waits, h_ss_cells, h_ss_many, trivial⟩
  · rcases z_ite hm with ⟨cs1_1, hm⟩ | ⟨cs1_1, hm⟩
    · refine z_tabIn (tgt := 64) C h_x1 dX5_count_1 1 cs1_1 (by decide) rfl (by decide) ?_
      refine z_aload_n C dX5_count_64 0 rfl ?_
      refine z_get C zf_X5_19 dX5_count_65 0 rfl rfl ?_
      refine z_get C zf_X5_226 dX5_count_68 5 rfl rfl ?_
      cases hm
      exact z_iret C E dX5_count_71 ⟨rfl, rfl, h_gr_rows, h_ss_state, h_ss_waiting, h_ss_waits, h_ss_cells, h_ss_many, trivial⟩
    · rcases z_ite hm with ⟨cs1_2, hm⟩ | ⟨cs1_2, hm⟩
      · refine z_tabIn (tgt := 72) C h_x1 dX5_count_1 2 cs1_2 (by decide) rfl (by decide) ?_
        refine z_aload_n C dX5_count_72 0 rfl ?_
        refine z_get C zf_X5_26 dX5_count_73 0 rfl rfl ?_
        refine z_aload_n C dX5_count_76 0 rfl ?_
        refine z_get C zf_X5_19 dX5_count_77 0 rfl rfl ?_
        obtain ⟨r1, k2, hm⟩ := z_b1s hm
        refine z_callVi C (k_X4_wetCells l G N nw_o nw_Aheight nw_Adrops gr_o gr_Akind gr_Abeside gr_AbesideBits nw_height nw_drops nw_hours nw_restless gr_rows gr_columns gr_cells gr_kind gr_beside gr_besideBits h_nw_height h_nw_drops h_nw_hours h_gr_rows h_gr_columns h_gr_cells h_gr_kind h_gr_beside r1 k2) zv_X4_wetCells zl_X5_203 dX5_count_80 [9, 10, 11, 5, 6, 7, 8] rfl rfl rfl (ws' := [(m_o, z_o 5 [.ref tx_o, .ref gr_o, .ref nw_o, .ref og_o, .ref la_o, .ref ss_o, .ref un_o, .ref kp_o, .ref m_AringCell, .ref m_AringDrops, z_i m_rings]), (m_AringCell, z_a G.2.1 6 m_ringCell), (m_AringDrops, z_a G.2.1 6 m_ringDrops), (tx_o, z_o 3 [.ref tx_Aletters, z_i tx_length, z_i tx_at]), (tx_Aletters, z_a G.2.2.2.1 200 tx_letters), (gr_o, z_o 0 [z_i gr_rows, z_i gr_columns, z_i gr_cells, .ref gr_Akind, .ref gr_Abeside, .ref gr_AbesideBits]), (gr_Akind, z_a G.2.1 36 gr_kind), (gr_Abeside, z_a G.2.1 144 gr_beside), (gr_AbesideBits, z_l G.2.2.1 36 gr_besideBits), (nw_o, z_o 4 [.ref nw_Aheight, .ref nw_Adrops, z_i nw_hours, .long nw_restless]), (nw_Aheight, z_a G.2.1 36 nw_height), (nw_Adrops, z_a G.2.1 36 nw_drops), (ss_o, z_o 2 [.ref ss_Astate, .ref ss_Awaiting, z_i ss_waits, z_i ss_cells, z_i ss_many]), (ss_Astate, z_a G.2.1 36 ss_state), (ss_Awaiting, z_a G.2.1 36 ss_waiting), (un_o, z_o 1 [.ref un_Aheights, .ref un_Adrops, .ref un_Ahours, z_i un_many]), (un_Aheights, z_a G.2.1 288 un_heights), (un_Adrops, z_a G.2.1 288 un_drops), (un_Ahours, z_a G.2.1 8 un_hours), (kp_o, z_o 1 [.ref kp_Aheights, .ref kp_Adrops, .ref kp_Ahours, z_i kp_many]), (kp_Aheights, z_a G.2.1 288 kp_heights), (kp_Adrops, z_a G.2.1 288 kp_drops), (kp_Ahours, z_a G.2.1 8 kp_hours)]) rfl 9 rfl rfl rfl [] rfl (Nat.le_of_ble_eq_true rfl) ⟨Nat.le_of_ble_eq_true rfl, Nat.le_of_ble_eq_true rfl⟩ ⟨rfl, rfl⟩ ⟨Nat.zero_le _, Nat.zero_le _⟩ (fun hF => ?_)
        obtain ⟨h_r1, -⟩ := hF
        cases hm
        exact z_iret C E dX5_count_83 ⟨rfl, rfl, h_r1, h_ss_state, h_ss_waiting, h_ss_waits, h_ss_cells, h_ss_many, trivial⟩
      · rcases z_ite hm with ⟨cs1_3, hm⟩ | ⟨cs1_3, hm⟩
        · refine z_tabIn (tgt := 84) C h_x1 dX5_count_1 3 cs1_3 (by decide) rfl (by decide) ?_
          refine z_aload_n C dX5_count_84 0 rfl ?_
          refine z_get C zf_X5_39 dX5_count_85 0 rfl rfl ?_
          refine z_aload_n C dX5_count_88 0 rfl ?_
          refine z_get C zf_X5_19 dX5_count_89 0 rfl rfl ?_
          refine z_aload_n C dX5_count_92 0 rfl ?_
          refine z_get C zf_X5_26 dX5_count_93 0 rfl rfl ?_
          obtain ⟨ss_state_3, ss_waiting_4, ss_waits_5, ss_cells_6, ss_many_7, k8, hm⟩ := z_b5s hm
          refine z_callVv C (k_X2_map l G N ss_o ss_Astate ss_Awaiting gr_o gr_Akind gr_Abeside gr_AbesideBits nw_o nw_Aheight nw_Adrops ss_state ss_waiting ss_waits ss_cells ss_many gr_rows gr_columns gr_cells gr_kind gr_beside gr_besideBits nw_height nw_drops nw_hours nw_restless h_ss_state h_ss_waiting h_ss_waits h_ss_cells h_ss_many h_gr_rows h_gr_columns h_gr_cells h_gr_kind h_gr_beside h_nw_height h_nw_drops h_nw_hours ss_state_3 ss_waiting_4 ss_waits_5 ss_cells_6 ss_many_7 k8) zv_X2_map zl_X5_113 dX5_count_96 [12, 13, 14, 5, 6, 7, 8, 9, 10, 11] rfl rfl rfl (ws' := [(m_o, z_o 5 [.ref tx_o, .ref gr_o, .ref nw_o, .ref og_o, .ref la_o, .ref ss_o, .ref un_o, .ref kp_o, .ref m_AringCell, .ref m_AringDrops, z_i m_rings]), (m_AringCell, z_a G.2.1 6 m_ringCell), (m_AringDrops, z_a G.2.1 6 m_ringDrops), (tx_o, z_o 3 [.ref tx_Aletters, z_i tx_length, z_i tx_at]), (tx_Aletters, z_a G.2.2.2.1 200 tx_letters), (gr_o, z_o 0 [z_i gr_rows, z_i gr_columns, z_i gr_cells, .ref gr_Akind, .ref gr_Abeside, .ref gr_AbesideBits]), (gr_Akind, z_a G.2.1 36 gr_kind), (gr_Abeside, z_a G.2.1 144 gr_beside), (gr_AbesideBits, z_l G.2.2.1 36 gr_besideBits), (nw_o, z_o 4 [.ref nw_Aheight, .ref nw_Adrops, z_i nw_hours, .long nw_restless]), (nw_Aheight, z_a G.2.1 36 nw_height), (nw_Adrops, z_a G.2.1 36 nw_drops), (ss_o, z_o 2 [.ref ss_Astate, .ref ss_Awaiting, z_i ss_waits_5, z_i ss_cells_6, z_i ss_many_7]), (ss_Astate, z_a G.2.1 36 ss_state_3), (ss_Awaiting, z_a G.2.1 36 ss_waiting_4), (un_o, z_o 1 [.ref un_Aheights, .ref un_Adrops, .ref un_Ahours, z_i un_many]), (un_Aheights, z_a G.2.1 288 un_heights), (un_Adrops, z_a G.2.1 288 un_drops), (un_Ahours, z_a G.2.1 8 un_hours), (kp_o, z_o 1 [.ref kp_Aheights, .ref kp_Adrops, .ref kp_Ahours, z_i kp_many]), (kp_Aheights, z_a G.2.1 288 kp_heights), (kp_Adrops, z_a G.2.1 288 kp_drops), (kp_Ahours, z_a G.2.1 8 kp_hours)]) rfl 12 rfl rfl rfl [] rfl (Nat.le_of_ble_eq_true rfl) ⟨Nat.le_of_ble_eq_true rfl, Nat.le_of_ble_eq_true rfl⟩ ⟨rfl, rfl⟩ ⟨Nat.zero_le _, Nat.zero_le _⟩ (fun hF => ?_)
          obtain ⟨h_ss_state_3, h_ss_waiting_4, h_ss_waits_5, h_ss_cells_6, h_ss_many_7, -⟩ := hF
          refine z_aload_n C dX5_count_99 0 rfl ?_
          refine z_get C zf_X5_39 dX5_count_100 0 rfl rfl ?_
          refine z_get C zf_X5_225 dX5_count_103 12 rfl rfl ?_
          cases hm
          exact z_iret C E dX5_count_106 ⟨rfl, rfl, h_ss_many_7, h_ss_state_3, h_ss_waiting_4, h_ss_waits_5, h_ss_cells_6, h_ss_many_7, trivial⟩
        · rcases z_ite hm with ⟨cs1_4, hm⟩ | ⟨cs1_4, hm⟩
          · refine z_tabIn (tgt := 107) C h_x1 dX5_count_1 4 cs1_4 (by decide) rfl (by decide) ?_
            refine z_aload_n C dX5_count_107 0 rfl ?_
            refine z_get C zf_X5_26 dX5_count_108 0 rfl rfl ?_
            refine z_aload_n C dX5_count_111 0 rfl ?_
            refine z_get C zf_X5_19 dX5_count_112 0 rfl rfl ?_
            obtain ⟨r9, k10, hm⟩ := z_b1s hm
            refine z_callVi C (k_X4_allDrops l G N nw_o nw_Aheight nw_Adrops gr_o gr_Akind gr_Abeside gr_AbesideBits nw_height nw_drops nw_hours nw_restless gr_rows gr_columns gr_cells gr_kind gr_beside gr_besideBits h_nw_height h_nw_drops h_nw_hours h_gr_rows h_gr_columns h_gr_cells h_gr_kind h_gr_beside r9 k10) zv_X4_allDrops zl_X5_136 dX5_count_115 [9, 10, 11, 5, 6, 7, 8] rfl rfl rfl (ws' := [(m_o, z_o 5 [.ref tx_o, .ref gr_o, .ref nw_o, .ref og_o, .ref la_o, .ref ss_o, .ref un_o, .ref kp_o, .ref m_AringCell, .ref m_AringDrops, z_i m_rings]), (m_AringCell, z_a G.2.1 6 m_ringCell), (m_AringDrops, z_a G.2.1 6 m_ringDrops), (tx_o, z_o 3 [.ref tx_Aletters, z_i tx_length, z_i tx_at]), (tx_Aletters, z_a G.2.2.2.1 200 tx_letters), (gr_o, z_o 0 [z_i gr_rows, z_i gr_columns, z_i gr_cells, .ref gr_Akind, .ref gr_Abeside, .ref gr_AbesideBits]), (gr_Akind, z_a G.2.1 36 gr_kind), (gr_Abeside, z_a G.2.1 144 gr_beside), (gr_AbesideBits, z_l G.2.2.1 36 gr_besideBits), (nw_o, z_o 4 [.ref nw_Aheight, .ref nw_Adrops, z_i nw_hours, .long nw_restless]), (nw_Aheight, z_a G.2.1 36 nw_height), (nw_Adrops, z_a G.2.1 36 nw_drops), (ss_o, z_o 2 [.ref ss_Astate, .ref ss_Awaiting, z_i ss_waits, z_i ss_cells, z_i ss_many]), (ss_Astate, z_a G.2.1 36 ss_state), (ss_Awaiting, z_a G.2.1 36 ss_waiting), (un_o, z_o 1 [.ref un_Aheights, .ref un_Adrops, .ref un_Ahours, z_i un_many]), (un_Aheights, z_a G.2.1 288 un_heights), (un_Adrops, z_a G.2.1 288 un_drops), (un_Ahours, z_a G.2.1 8 un_hours), (kp_o, z_o 1 [.ref kp_Aheights, .ref kp_Adrops, .ref kp_Ahours, z_i kp_many]), (kp_Aheights, z_a G.2.1 288 kp_heights), (kp_Adrops, z_a G.2.1 288 kp_drops), (kp_Ahours, z_a G.2.1 8 kp_hours)]) rfl 9 rfl rfl rfl [] rfl (Nat.le_of_ble_eq_true rfl) ⟨Nat.le_of_ble_eq_true rfl, Nat.le_of_ble_eq_true rfl⟩ ⟨rfl, rfl⟩ ⟨Nat.zero_le _, Nat.zero_le _⟩ (fun hF => ?_)
            obtain ⟨h_r9, -⟩ := hF
            cases hm
            exact z_iret C E dX5_count_118 ⟨rfl, rfl, h_r9, h_ss_state, h_ss_waiting, h_ss_waits, h_ss_cells, h_ss_many, trivial⟩
          · rcases z_ite hm with ⟨cs1_5, hm⟩ | ⟨cs1_5, hm⟩
            · refine z_tabIn (tgt := 119) C h_x1 dX5_count_1 5 cs1_5 (by decide) rfl (by decide) ?_
              refine z_aload_n C dX5_count_119 0 rfl ?_
              refine z_get C zf_X5_26 dX5_count_120 0 rfl rfl ?_
              refine z_get C zf_X5_143 dX5_count_123 9 rfl rfl ?_
              cases hm
              exact z_iret C E dX5_count_126 ⟨rfl, rfl, h_nw_hours, h_ss_state, h_ss_waiting, h_ss_waits, h_ss_cells, h_ss_many, trivial⟩
            · rcases z_ite hm with ⟨cs1_6, hm⟩ | ⟨cs1_6, hm⟩
              · refine z_tabIn (tgt := 127) C h_x1 dX5_count_1 6 cs1_6 (by decide) rfl (by decide) ?_
                refine z_aload_n C dX5_count_127 0 rfl ?_
                refine z_get C zf_X5_60 dX5_count_128 0 rfl rfl ?_
                cases hm
                exact z_iret C E dX5_count_131 ⟨rfl, rfl, h_m_rings, h_ss_state, h_ss_waiting, h_ss_waits, h_ss_cells, h_ss_many, trivial⟩
              · rcases z_ite hm with ⟨cs1_7, hm⟩ | ⟨cs1_7, hm⟩
                · refine z_tabIn (tgt := 132) C h_x1 dX5_count_1 7 cs1_7 (by decide) rfl (by decide) ?_
                  refine z_aload_n C dX5_count_132 0 rfl ?_
                  refine z_get C zf_X5_46 dX5_count_133 0 rfl rfl ?_
                  refine z_get C zf_X5_156 dX5_count_136 15 rfl rfl ?_
                  cases hm
                  exact z_iret C E dX5_count_139 ⟨rfl, rfl, h_un_many, h_ss_state, h_ss_waiting, h_ss_waits, h_ss_cells, h_ss_many, trivial⟩
                · rcases z_ite hm with ⟨cs1_8, hm⟩ | ⟨cs1_8, hm⟩
                  · refine z_tabIn (tgt := 140) C h_x1 dX5_count_1 8 cs1_8 (by decide) rfl (by decide) ?_
                    refine z_aload_n C dX5_count_140 0 rfl ?_
                    refine z_get C zf_X5_50 dX5_count_141 0 rfl rfl ?_
                    refine z_get C zf_X5_156 dX5_count_144 19 rfl rfl ?_
                    cases hm
                    exact z_iret C E dX5_count_147 ⟨rfl, rfl, h_kp_many, h_ss_state, h_ss_waiting, h_ss_waits, h_ss_cells, h_ss_many, trivial⟩
                  · rcases z_ite hm with ⟨cs1_9, hm⟩ | ⟨cs1_9, hm⟩
                    · refine z_tabIn (tgt := 148) C h_x1 dX5_count_1 9 cs1_9 (by decide) rfl (by decide) ?_
                      refine z_aload_n C dX5_count_148 0 rfl ?_
                      refine z_get C zf_X5_12 dX5_count_149 0 rfl rfl ?_
                      refine z_get C zf_X5_87 dX5_count_152 3 rfl rfl ?_
                      cases hm
                      exact z_iret C E dX5_count_155 ⟨rfl, rfl, h_tx_length, h_ss_state, h_ss_waiting, h_ss_waits, h_ss_cells, h_ss_many, trivial⟩
                    · refine z_tabOut (tgt := 156) C h_x1 dX5_count_1 (by omega) (by decide) ?_
                      refine z_iconst C dX5_count_156 ?_
                      cases hm
                      exact z_iret C E dX5_count_157 ⟨rfl, rfl, (z_k (-1) rfl), h_ss_state, h_ss_waiting, h_ss_waits, h_ss_cells, h_ss_many, trivial⟩
set_option maxRecDepth 100000 in
theorem k_X6_in (l : Launch) (G : z_G) (N : Nat) (x0 : Int) (x1 : Int) (x2 : Int) (h_x0 : z_n x0) (h_x1 : z_n x1) (h_x2 : z_n x2) (rr : Int) (hm : m_X6_in N x0 x1 x2 = some (rr)) : z_M l G yX6_in cX6_in 3 (some .boolean) (k2_rm 0 0) [z_i x0, z_i x1, z_i x2] ([]) 0 0 (fun v w => v = some (z_i rr) ∧ w = [] ∧ (rr = 0 ∨ rr = 1) ∧ True) := by
  unfold m_X6_in at hm
  refine z_M.intro (by decide +kernel) (Nat.le_of_ble_eq_true rfl) (L := [(0, z_i x0), (1, z_i x1), (2, z_i x2)]) rfl (fun X C E => ?_)
  refine z_iload_n C dX6_in_0 0 rfl ?_
  refine z_iload_n C dX6_in_1 1 rfl ?_
  refine z_icmp_lt (tgt := 14) C h_x0 h_x1 dX6_in_2 (by decide) (fun c1 => ?_) (fun c1 => ?_)
  · have hm := z_pos c1 hm
    refine z_iconst C dX6_in_14 ?_
    cases hm
    exact z_zret C E (Or.inl rfl) dX6_in_15 ⟨rfl, rfl, (Or.inl rfl), trivial⟩
  · have hm := z_neg c1 hm
    refine z_iload_n C dX6_in_5 0 rfl ?_
    refine z_iload_n C dX6_in_6 2 rfl ?_
    refine z_icmp_gt (tgt := 14) C h_x0 h_x2 dX6_in_7 (by decide) (fun c2 => ?_) (fun c2 => ?_)
    · have hm := z_pos c2 hm
      refine z_iconst C dX6_in_14 ?_
      cases hm
      exact z_zret C E (Or.inl rfl) dX6_in_15 ⟨rfl, rfl, (Or.inl rfl), trivial⟩
    · have hm := z_neg c2 hm
      refine z_iconst C dX6_in_10 ?_
      refine z_goto (tgt := 15) C dX6_in_11 (by decide) ?_
      cases hm
      exact z_zret C E (Or.inr rfl) dX6_in_15 ⟨rfl, rfl, (Or.inr rfl), trivial⟩
