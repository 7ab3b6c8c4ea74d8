set_option maxRecDepth 100000 in
theorem k_X5_kerb (l : Launch) (G : z_G) (N : Nat) (m_o tx_o gr_o nw_o og_o la_o ss_o un_o kp_o m_AringCell m_AringDrops gr_Akind gr_Abeside gr_AbesideBits nw_Aheight nw_Adrops og_Akind og_Abeside og_AbesideBits la_Aheight la_Adrops ss_Astate ss_Awaiting : Nat) (m_ringCell : (Int → Int)) (m_ringDrops : (Int → Int)) (m_rings : Int) (gr_rows : Int) (gr_columns : Int) (gr_cells : Int) (gr_kind : (Int → Int)) (gr_beside : (Int → Int)) (gr_besideBits : (Int → Int64)) (nw_height : (Int → Int)) (nw_drops : (Int → Int)) (nw_hours : Int) (nw_restless : Int64) (og_rows : Int) (og_columns : Int) (og_cells : Int) (og_kind : (Int → Int)) (og_beside : (Int → Int)) (og_besideBits : (Int → Int64)) (la_height : (Int → Int)) (la_drops : (Int → Int)) (la_hours : Int) (la_restless : Int64) (ss_state : (Int → Int)) (ss_waiting : (Int → Int)) (ss_waits : Int) (ss_cells : Int) (ss_many : Int) (x1 : Int) (x2 : Int) (x3 : Int) (h_m_ringCell : z_r m_ringCell) (h_m_ringDrops : z_r m_ringDrops) (h_m_rings : z_n m_rings) (h_gr_rows : z_n gr_rows) (h_gr_columns : z_n gr_columns) (h_gr_cells : z_n gr_cells) (h_gr_kind : z_r gr_kind) (h_gr_beside : z_r gr_beside) (h_nw_height : z_r nw_height) (h_nw_drops : z_r nw_drops) (h_nw_hours : z_n nw_hours) (h_og_rows : z_n og_rows) (h_og_columns : z_n og_columns) (h_og_cells : z_n og_cells) (h_og_kind : z_r og_kind) (h_og_beside : z_r og_beside) (h_la_height : z_r la_height) (h_la_drops : z_r la_drops) (h_la_hours : z_n la_hours) (h_ss_state : z_r ss_state) (h_ss_waiting : z_r ss_waiting) (h_ss_waits : z_n ss_waits) (h_ss_cells : z_n ss_cells) (h_ss_many : z_n ss_many) (h_x1 : z_n x1) (h_x2 : z_n x2) (h_x3 : z_n x3) (rr : Int) (q_og_rows : Int) (q_og_columns : Int) (q_og_cells : Int) (q_og_kind : (Int → Int)) (q_og_beside : (Int → Int)) (q_og_besideBits : (Int → Int64)) (q_la_height : (Int → Int)) (q_la_drops : (Int → Int)) (q_la_hours : Int) (q_la_restless : Int64) (q_ss_state : (Int → Int)) (q_ss_waiting : (Int → Int)) (q_ss_waits : Int) (q_ss_cells : Int) (q_ss_many : Int) (hm : m_X5_kerb N gr_rows gr_columns gr_cells gr_kind gr_beside gr_besideBits nw_height nw_drops nw_hours og_rows og_columns og_cells og_kind og_beside og_besideBits la_height la_drops la_hours la_restless ss_state ss_waiting ss_waits ss_cells ss_many x1 x2 x3 = some (rr, q_og_rows, q_og_columns, q_og_cells, q_og_kind, q_og_beside, q_og_besideBits, q_la_height, q_la_drops, q_la_hours, q_la_restless, q_ss_state, q_ss_waiting, q_ss_waits, q_ss_cells, q_ss_many)) : z_M l G yX5_kerb cX5_kerb 5 (some .int) (k2_rm 7 157) [.ref m_o, z_i x1, z_i x2, z_i x3] ([(m_o, z_o 5 [.ref tx_o, .ref gr_o, .ref nw_o, .ref og_o, .ref la_o, .ref ss_o, .ref un_o, .ref kp_o, .ref m_AringCell, .ref m_AringDrops, z_i m_rings]), (m_AringCell, z_a G.2.1 6 m_ringCell), (m_AringDrops, z_a G.2.1 6 m_ringDrops), (gr_o, z_o 0 [z_i gr_rows, z_i gr_columns, z_i gr_cells, .ref gr_Akind, .ref gr_Abeside, .ref gr_AbesideBits]), (gr_Akind, z_a G.2.1 36 gr_kind), (gr_Abeside, z_a G.2.1 144 gr_beside), (gr_AbesideBits, z_l G.2.2.1 36 gr_besideBits), (nw_o, z_o 4 [.ref nw_Aheight, .ref nw_Adrops, z_i nw_hours, .long nw_restless]), (nw_Aheight, z_a G.2.1 36 nw_height), (nw_Adrops, z_a G.2.1 36 nw_drops), (og_o, z_o 0 [z_i og_rows, z_i og_columns, z_i og_cells, .ref og_Akind, .ref og_Abeside, .ref og_AbesideBits]), (og_Akind, z_a G.2.1 36 og_kind), (og_Abeside, z_a G.2.1 144 og_beside), (og_AbesideBits, z_l G.2.2.1 36 og_besideBits), (la_o, z_o 4 [.ref la_Aheight, .ref la_Adrops, z_i la_hours, .long la_restless]), (la_Aheight, z_a G.2.1 36 la_height), (la_Adrops, z_a G.2.1 36 la_drops), (ss_o, z_o 2 [.ref ss_Astate, .ref ss_Awaiting, z_i ss_waits, z_i ss_cells, z_i ss_many]), (ss_Astate, z_a G.2.1 36 ss_state), (ss_Awaiting, z_a G.2.1 36 ss_waiting)]) 0 0 (fun v w => v = some (z_i rr) ∧ w = [(m_o, z_o 5 [.ref tx_o, .ref gr_o, .ref nw_o, .ref og_o, .ref la_o, .ref ss_o, .ref un_o, .ref kp_o, .ref m_AringCell, .ref m_AringDrops, z_i m_rings]), (m_AringCell, z_a G.2.1 6 m_ringCell), (m_AringDrops, z_a G.2.1 6 m_ringDrops), (gr_o, z_o 0 [z_i gr_rows, z_i gr_columns, z_i gr_cells, .ref gr_Akind, .ref gr_Abeside, .ref gr_AbesideBits]), (gr_Akind, z_a G.2.1 36 gr_kind), (gr_Abeside, z_a G.2.1 144 gr_beside), (gr_AbesideBits, z_l G.2.2.1 36 gr_besideBits), (nw_o, z_o 4 [.ref nw_Aheight, .ref nw_Adrops, z_i nw_hours, .long nw_restless]), (nw_Aheight, z_a G.2.1 36 nw_height), (nw_Adrops, z_a G.2.1 36 nw_drops), (og_o, z_o 0 [z_i q_og_rows, z_i q_og_columns, z_i q_og_cells, .ref og_Akind, .ref og_Abeside, .ref og_AbesideBits]), (og_Akind, z_a G.2.1 36 q_og_kind), (og_Abeside, z_a G.2.1 144 q_og_beside), (og_AbesideBits, z_l G.2.2.1 36 q_og_besideBits), (la_o, z_o 4 [.ref la_Aheight, .ref la_Adrops, z_i q_la_hours, .long q_la_restless]), (la_Aheight, z_a G.2.1 36 q_la_height), (la_Adrops, z_a G.2.1 36 q_la_drops), (ss_o, z_o 2 [.ref ss_Astate, .ref ss_Awaiting, z_i q_ss_waits, z_i q_ss_cells, z_i q_ss_many]), (ss_Astate, z_a G.2.1 36 q_ss_state), (ss_Awaiting, z_a G.2.1 36 q_ss_waiting)] ∧ z_n rr ∧ z_n q_og_rows ∧ z_n q_og_columns ∧ z_n q_og_cells ∧ z_r q_og_kind ∧ z_r q_og_beside ∧ z_r q_la_height ∧ z_r q_la_drops ∧ z_n q_la_hours ∧ z_r q_ss_state ∧ z_r q_ss_waiting ∧ z_n q_ss_waits ∧ z_n q_ss_cells ∧ z_n q_ss_many ∧ True) := by
  unfold m_X5_kerb at hm
  refine z_M.intro (by decide +kernel) (Nat.le_of_ble_eq_true rfl) (L := [(0, .ref m_o), (1, z_i x1), (2, z_i x2), (3, z_i x3)]) rfl (fun X C E => ?_)
  refine z_aload_n C dX5_kerb_0 0 rfl ?_
  refine z_iload_n C dX5_kerb_1 1 rfl ?_
  refine z_iload_n C dX5_kerb_2 2 rfl ?_
  obtain ⟨r1, k2, hm⟩ := z_b1s hm
  refine z_callVi C (k_X5_areTwo l G N m_o tx_o gr_o nw_o og_o la_o ss_o un_o kp_o m_AringCell m_AringDrops gr_Akind gr_Abeside gr_AbesideBits m_ringCell m_ringDrops m_rings gr_rows gr_columns gr_cells gr_kind gr_beside gr_besideBits x1 x2 h_m_ringCell h_m_ringDrops h_m_rings h_gr_rows h_gr_columns h_gr_cells h_gr_kind h_gr_beside h_x1 h_x2 r1 k2) zv_X5_areTwo zl_X5_171 dX5_kerb_3 [0, 1, 2, 3, 4, 5, 6] rfl rfl rfl (ws' := [(m_o, z_o 5 [.ref tx_o, .ref gr_o, .ref nw_o, .ref og_o, .ref la_o, .ref ss_o, .ref un_o, .ref kp_o, .ref m_AringCell, .ref m_AringDrops, z_i m_rings]), (m_AringCell, z_a G.2.1 6 m_ringCell), (m_AringDrops, z_a G.2.1 6 m_ringDrops), (gr_o, z_o 0 [z_i gr_rows, z_i gr_columns, z_i gr_cells, .ref gr_Akind, .ref gr_Abeside, .ref gr_AbesideBits]), (gr_Akind, z_a G.2.1 36 gr_kind), (gr_Abeside, z_a G.2.1 144 gr_beside), (gr_AbesideBits, z_l G.2.2.1 36 gr_besideBits), (nw_o, z_o 4 [.ref nw_Aheight, .ref nw_Adrops, z_i nw_hours, .long nw_restless]), (nw_Aheight, z_a G.2.1 36 nw_height), (nw_Adrops, z_a G.2.1 36 nw_drops), (og_o, z_o 0 [z_i og_rows, z_i og_columns, z_i og_cells, .ref og_Akind, .ref og_Abeside, .ref og_AbesideBits]), (og_Akind, z_a G.2.1 36 og_kind), (og_Abeside, z_a G.2.1 144 og_beside), (og_AbesideBits, z_l G.2.2.1 36 og_besideBits), (la_o, z_o 4 [.ref la_Aheight, .ref la_Adrops, z_i la_hours, .long la_restless]), (la_Aheight, z_a G.2.1 36 la_height), (la_Adrops, z_a G.2.1 36 la_drops), (ss_o, z_o 2 [.ref ss_Astate, .ref ss_Awaiting, z_i ss_waits, z_i ss_cells, z_i ss_many]), (ss_Astate, z_a G.2.1 36 ss_state), (ss_Awaiting, z_a G.2.1 36 ss_waiting)]) rfl 0 rfl rfl rfl [] rfl (Nat.le_of_ble_eq_true rfl) ⟨Nat.le_of_ble_eq_true rfl, Nat.le_of_ble_eq_true rfl⟩ ⟨rfl, rfl⟩ ⟨Nat.zero_le _, Nat.zero_le _⟩ (fun hF => ?_)
  obtain ⟨hb_r1, -⟩ := hF
  refine z_if_eq (tgt := 19) C (z_n01 hb_r1) dX5_kerb_6 (by decide) (fun c3 => ?_) (fun c3 => ?_)
  · have hm := z_pos c3 hm
    refine z_iconst C dX5_kerb_19 ?_
    cases hm
    exact z_iret C E dX5_kerb_20 ⟨rfl, rfl, (z_k (-1) rfl), h_og_rows, h_og_columns, h_og_cells, h_og_kind, h_og_beside, h_la_height, h_la_drops, h_la_hours, h_ss_state, h_ss_waiting, h_ss_waits, h_ss_cells, h_ss_many, trivial⟩
  · have hm := z_neg c3 hm
    refine z_iload_n C dX5_kerb_9 3 rfl ?_
    refine z_iconst C dX5_kerb_10 ?_
    refine z_bipush C dX5_kerb_11 (by decide) ?_
    obtain ⟨r4, k5, hm⟩ := z_b1s hm
    refine z_callSi C (k_X5_isFrom l G N x3 0 9 h_x3 (z_k 0 rfl) (z_k 9 rfl) r4 k5) zs_X5_isFrom zl_X5_100 dX5_kerb_13 [] rfl rfl rfl (ws' := [(m_o, z_o 5 [.ref tx_o, .ref gr_o, .ref nw_o, .ref og_o, .ref la_o, .ref ss_o, .ref un_o, .ref kp_o, .ref m_AringCell, .ref m_AringDrops, z_i m_rings]), (m_AringCell, z_a G.2.1 6 m_ringCell), (m_AringDrops, z_a G.2.1 6 m_ringDrops), (gr_o, z_o 0 [z_i gr_rows, z_i gr_columns, z_i gr_cells, .ref gr_Akind, .ref gr_Abeside, .ref gr_AbesideBits]), (gr_Akind, z_a G.2.1 36 gr_kind), (gr_Abeside, z_a G.2.1 144 gr_beside), (gr_AbesideBits, z_l G.2.2.1 36 gr_besideBits), (nw_o, z_o 4 [.ref nw_Aheight, .ref nw_Adrops, z_i nw_hours, .long nw_restless]), (nw_Aheight, z_a G.2.1 36 nw_height), (nw_Adrops, z_a G.2.1 36 nw_drops), (og_o, z_o 0 [z_i og_rows, z_i og_columns, z_i og_cells, .ref og_Akind, .ref og_Abeside, .ref og_AbesideBits]), (og_Akind, z_a G.2.1 36 og_kind), (og_Abeside, z_a G.2.1 144 og_beside), (og_AbesideBits, z_l G.2.2.1 36 og_besideBits), (la_o, z_o 4 [.ref la_Aheight, .ref la_Adrops, z_i la_hours, .long la_restless]), (la_Aheight, z_a G.2.1 36 la_height), (la_Adrops, z_a G.2.1 36 la_drops), (ss_o, z_o 2 [.ref ss_Astate, .ref ss_Awaiting, z_i ss_waits, z_i ss_cells, z_i ss_many]), (ss_Astate, z_a G.2.1 36 ss_state), (ss_Awaiting, z_a G.2.1 36 ss_waiting)]) rfl rfl [] rfl (Nat.le_of_ble_eq_true rfl) ⟨Nat.le_of_ble_eq_true rfl, Nat.le_of_ble_eq_true rfl⟩ ⟨rfl, rfl⟩ ⟨Nat.zero_le _, Nat.zero_le _⟩ (fun hF => ?_)
    obtain ⟨hb_r4, -⟩ := hF
    refine z_if_ne (tgt := 21) C (z_n01 hb_r4) dX5_kerb_16 (by decide) (fun c6 => ?_) (fun c6 => ?_)
    · have hm := z_pos c6 hm
      refine z_aload_n C dX5_kerb_21 0 rfl ?_
      refine z_aload_n C dX5_kerb_22 0 rfl ?_
      refine z_get C zf_X5_19 dX5_kerb_23 0 rfl rfl ?_
      refine z_iload_n C dX5_kerb_26 1 rfl ?_
      refine z_iload_n C dX5_kerb_27 2 rfl ?_
      refine z_iload_n C dX5_kerb_28 3 rfl ?_
      obtain ⟨r7, la_height_8, la_drops_9, la_hours_10, la_restless_11, ss_state_12, ss_waiting_13, ss_waits_14, ss_cells_15, ss_many_16, k17, hm⟩ := z_b10s hm
      refine z_callVi C (k_X5_apartBehindRain l G N m_o tx_o gr_o nw_o og_o la_o ss_o un_o kp_o m_AringCell m_AringDrops gr_o gr_Akind gr_Abeside gr_AbesideBits nw_Aheight nw_Adrops la_Aheight la_Adrops ss_Astate ss_Awaiting m_ringCell m_ringDrops m_rings gr_rows gr_columns gr_cells gr_kind gr_beside gr_besideBits nw_height nw_drops nw_hours nw_restless la_height la_drops la_hours la_restless ss_state ss_waiting ss_waits ss_cells ss_many x1 x2 x3 h_m_ringCell h_m_ringDrops h_m_rings h_gr_rows h_gr_columns h_gr_cells h_gr_kind h_gr_beside h_nw_height h_nw_drops h_nw_hours h_la_height h_la_drops h_la_hours h_ss_state h_ss_waiting h_ss_waits h_ss_cells h_ss_many h_x1 h_x2 h_x3 r7 la_height_8 la_drops_9 la_hours_10 la_restless_11 ss_state_12 ss_waiting_13 ss_waits_14 ss_cells_15 ss_many_16 k17) zv_X5_apartBehindRain zl_X5_175 dX5_kerb_29 [0, 1, 2, 3, 4, 5, 6, 7, 8, 9, 14, 15, 16, 17, 18, 19] rfl rfl rfl (ws' := [(m_o, z_o 5 [.ref tx_o, .ref gr_o, .ref nw_o, .ref og_o, .ref la_o, .ref ss_o, .ref un_o, .ref kp_o, .ref m_AringCell, .ref m_AringDrops, z_i m_rings]), (m_AringCell, z_a G.2.1 6 m_ringCell), (m_AringDrops, z_a G.2.1 6 m_ringDrops), (gr_o, z_o 0 [z_i gr_rows, z_i gr_columns, z_i gr_cells, .ref gr_Akind, .ref gr_Abeside, .ref gr_AbesideBits]), (gr_Akind, z_a G.2.1 36 gr_kind), (gr_Abeside, z_a G.2.1 144 gr_beside), (gr_AbesideBits, z_l G.2.2.1 36 gr_besideBits), (nw_o, z_o 4 [.ref nw_Aheight, .ref nw_Adrops, z_i nw_hours, .long nw_restless]), (nw_Aheight, z_a G.2.1 36 nw_height), (nw_Adrops, z_a G.2.1 36 nw_drops), (og_o, z_o 0 [z_i og_rows, z_i og_columns, z_i og_cells, .ref og_Akind, .ref og_Abeside, .ref og_AbesideBits]), (og_Akind, z_a G.2.1 36 og_kind), (og_Abeside, z_a G.2.1 144 og_beside), (og_AbesideBits, z_l G.2.2.1 36 og_besideBits), (la_o, z_o 4 [.ref la_Aheight, .ref la_Adrops, z_i la_hours_10, .long la_restless_11]), (la_Aheight, z_a G.2.1 36 la_height_8), (la_Adrops, z_a G.2.1 36 la_drops_9), (ss_o, z_o 2 [.ref ss_Astate, .ref ss_Awaiting, z_i ss_waits_14, z_i ss_cells_15, z_i ss_many_16]), (ss_Astate, z_a G.2.1 36 ss_state_12), (ss_Awaiting, z_a G.2.1 36 ss_waiting_13)]) rfl 0 rfl rfl rfl [] rfl (Nat.le_of_ble_eq_true rfl) ⟨Nat.le_of_ble_eq_true rfl, Nat.le_of_ble_eq_true rfl⟩ ⟨rfl, rfl⟩ ⟨Nat.zero_le _, Nat.zero_le _⟩ (fun hF => ?_)
      obtain ⟨hb_r7, h_la_height_8, h_la_drops_9, h_la_hours_10, h_ss_state_12, h_ss_waiting_13, h_ss_waits_14, h_ss_cells_15, h_ss_many_16, -⟩ := hF
      refine z_if_eq (tgt := 38) C (z_n01 hb_r7) dX5_kerb_32 (by decide) (fun c18 => ?_) (fun c18 => ?_)
      · have hm := z_pos c18 hm
        refine z_iconst C dX5_kerb_38 ?_
        refine z_istore C dX5_kerb_39 (by decide) (L' := [(4, z_i 0), (0, .ref m_o), (1, z_i x1), (2, z_i x2), (3, z_i x3)]) rfl ?_
        have L1 : ∀ (n1 : Nat) (v4_1 : Int) (og_rows_1 : Int) (og_columns_1 : Int) (og_cells_1 : Int) (og_kind_1 : (Int → Int)) (og_beside_1 : (Int → Int)) (og_besideBits_1 : (Int → Int64)) (la_height_1 : (Int → Int)) (la_drops_1 : (Int → Int)) (la_hours_1 : Int) (la_restless_1 : Int64) (ss_state_1 : (Int → Int)) (ss_waiting_1 : (Int → Int)) (ss_waits_1 : Int) (ss_cells_1 : Int) (ss_many_1 : Int), z_n v4_1 → z_n og_rows_1 → z_n og_columns_1 → z_n og_cells_1 → z_r og_kind_1 → z_r og_beside_1 → z_r la_height_1 → z_r la_drops_1 → z_n la_hours_1 → z_r ss_state_1 → z_r ss_waiting_1 → z_n ss_waits_1 → z_n ss_cells_1 → z_n ss_many_1 → m_X5_kerb_l1 N gr_cells gr_kind nw_drops x1 x2 gr_rows gr_columns gr_beside gr_besideBits nw_height nw_hours x3 n1 v4_1 og_rows_1 og_columns_1 og_cells_1 og_kind_1 og_beside_1 og_besideBits_1 la_height_1 la_drops_1 la_hours_1 la_restless_1 ss_state_1 ss_waiting_1 ss_waits_1 ss_cells_1 ss_many_1 = some (rr, q_og_rows, q_og_columns, q_og_cells, q_og_kind, q_og_beside, q_og_besideBits, q_la_height, q_la_drops, q_la_hours, q_la_restless, q_ss_state, q_ss_waiting, q_ss_waits, q_ss_cells, q_ss_many) → z_J X 0 0 ([(m_o, z_o 5 [.ref tx_o, .ref gr_o, .ref nw_o, .ref og_o, .ref la_o, .ref ss_o, .ref un_o, .ref kp_o, .ref m_AringCell, .ref m_AringDrops, z_i m_rings]), (m_AringCell, z_a G.2.1 6 m_ringCell), (m_AringDrops, z_a G.2.1 6 m_ringDrops), (gr_o, z_o 0 [z_i gr_rows, z_i gr_columns, z_i gr_cells, .ref gr_Akind, .ref gr_Abeside, .ref gr_AbesideBits]), (gr_Akind, z_a G.2.1 36 gr_kind), (gr_Abeside, z_a G.2.1 144 gr_beside), (gr_AbesideBits, z_l G.2.2.1 36 gr_besideBits), (nw_o, z_o 4 [.ref nw_Aheight, .ref nw_Adrops, z_i nw_hours, .long nw_restless]), (nw_Aheight, z_a G.2.1 36 nw_height), (nw_Adrops, z_a G.2.1 36 nw_drops), (og_o, z_o 0 [z_i og_rows_1, z_i og_columns_1, z_i og_cells_1, .ref og_Akind, .ref og_Abeside, .ref og_AbesideBits]), (og_Akind, z_a G.2.1 36 og_kind_1), (og_Abeside, z_a G.2.1 144 og_beside_1), (og_AbesideBits, z_l G.2.2.1 36 og_besideBits_1), (la_o, z_o 4 [.ref la_Aheight, .ref la_Adrops, z_i la_hours_1, .long la_restless_1]), (la_Aheight, z_a G.2.1 36 la_height_1), (la_Adrops, z_a G.2.1 36 la_drops_1), (ss_o, z_o 2 [.ref ss_Astate, .ref ss_Awaiting, z_i ss_waits_1, z_i ss_cells_1, z_i ss_many_1]), (ss_Astate, z_a G.2.1 36 ss_state_1), (ss_Awaiting, z_a G.2.1 36 ss_waiting_1)]) [(0, .ref m_o), (1, z_i x1), (2, z_i x2), (3, z_i x3), (4, z_i v4_1)] 41 [] := by
          clear hm
          intro n1
          induction n1 with
          | zero =>
            intro v4_1 og_rows_1 og_columns_1 og_cells_1 og_kind_1 og_beside_1 og_besideBits_1 la_height_1 la_drops_1 la_hours_1 la_restless_1 ss_state_1 ss_waiting_1 ss_waits_1 ss_cells_1 ss_many_1 h_v4_1 h_og_rows_1 h_og_columns_1 h_og_cells_1 h_og_kind_1 h_og_beside_1 h_la_height_1 h_la_drops_1 h_la_hours_1 h_ss_state_1 h_ss_waiting_1 h_ss_waits_1 h_ss_cells_1 h_ss_many_1 hm
            rw [m_X5_kerb_l1] at hm
            cases hm
          | succ n1 ih1 =>
            intro v4_1 og_rows_1 og_columns_1 og_cells_1 og_kind_1 og_beside_1 og_besideBits_1 la_height_1 la_drops_1 la_hours_1 la_restless_1 ss_state_1 ss_waiting_1 ss_waits_1 ss_cells_1 ss_many_1 h_v4_1 h_og_rows_1 h_og_columns_1 h_og_cells_1 h_og_kind_1 h_og_beside_1 h_la_height_1 h_la_drops_1 h_la_hours_1 h_ss_state_1 h_ss_waiting_1 h_ss_waits_1 h_ss_cells_1 h_ss_many_1 hm
            rw [m_X5_kerb_l1] at hm
            refine z_iload C dX5_kerb_41 4 rfl ?_
            refine z_aload_n C dX5_kerb_43 0 rfl ?_
            refine z_get C zf_X5_19 dX5_kerb_44 0 rfl rfl ?_
            refine z_get C zf_X5_93 dX5_kerb_47 3 rfl rfl ?_
            refine z_icmp_ge (tgt := 114) C h_v4_1 h_gr_cells dX5_kerb_50 (by decide) (fun c19 => ?_) (fun c19 => ?_)
            · have hm := z_pos c19 hm
              refine z_bipush C dX5_kerb_114 (by decide) ?_
              cases hm
              exact z_iret C E dX5_kerb_116 ⟨rfl, rfl, (z_k (-4) rfl), h_og_rows_1, h_og_columns_1, h_og_cells_1, h_og_kind_1, h_og_beside_1, h_la_height_1, h_la_drops_1, h_la_hours_1, h_ss_state_1, h_ss_waiting_1, h_ss_waits_1, h_ss_cells_1, h_ss_many_1, trivial⟩
            · have hm := z_neg c19 hm
              refine z_iload C dX5_kerb_53 4 rfl ?_
              refine z_bipush C dX5_kerb_55 (by decide) ?_
              refine z_icmp_ge (tgt := 114) C h_v4_1 (z_k 36 rfl) dX5_kerb_57 (by decide) (fun c20 => ?_) (fun c20 => ?_)
              · have hm := z_pos c20 hm
                refine z_bipush C dX5_kerb_114 (by decide) ?_
                cases hm
                exact z_iret C E dX5_kerb_116 ⟨rfl, rfl, (z_k (-4) rfl), h_og_rows_1, h_og_columns_1, h_og_cells_1, h_og_kind_1, h_og_beside_1, h_la_height_1, h_la_drops_1, h_la_hours_1, h_ss_state_1, h_ss_waiting_1, h_ss_waits_1, h_ss_cells_1, h_ss_many_1, trivial⟩
              · have hm := z_neg c20 hm
                refine z_aload_n C dX5_kerb_60 0 rfl ?_
                refine z_iload C dX5_kerb_61 4 rfl ?_
                refine z_iload_n C dX5_kerb_63 1 rfl ?_
                refine z_iload_n C dX5_kerb_64 2 rfl ?_
                obtain ⟨r21, k22, hm⟩ := z_b1s hm
                refine z_callVi C (k_X5_mayBeKerb l G N m_o tx_o gr_o nw_o og_o la_o ss_o un_o kp_o m_AringCell m_AringDrops gr_Akind gr_Abeside gr_AbesideBits nw_Aheight nw_Adrops m_ringCell m_ringDrops m_rings gr_rows gr_columns gr_cells gr_kind gr_beside gr_besideBits nw_height nw_drops nw_hours nw_restless v4_1 x1 x2 h_m_ringCell h_m_ringDrops h_m_rings h_gr_rows h_gr_columns h_gr_cells h_gr_kind h_gr_beside h_nw_height h_nw_drops h_nw_hours h_v4_1 h_x1 h_x2 r21 k22) zv_X5_mayBeKerb zl_X5_190 dX5_kerb_65 [0, 1, 2, 3, 4, 5, 6, 7, 8, 9] rfl rfl rfl (ws' := [(m_o, z_o 5 [.ref tx_o, .ref gr_o, .ref nw_o, .ref og_o, .ref la_o, .ref ss_o, .ref un_o, .ref kp_o, .ref m_AringCell, .ref m_AringDrops, z_i m_rings]), (m_AringCell, z_a G.2.1 6 m_ringCell), (m_AringDrops, z_a G.2.1 6 m_ringDrops), (gr_o, z_o 0 [z_i gr_rows, z_i gr_columns, z_i gr_cells, .ref gr_Akind, .ref gr_Abeside, .ref gr_AbesideBits]), (gr_Akind, z_a G.2.1 36 gr_kind), (gr_Abeside, z_a G.2.1 144 gr_beside), (gr_AbesideBits, z_l G.2.2.1 36 gr_besideBits), (nw_o, z_o 4 [.ref nw_Aheight, .ref nw_Adrops, z_i nw_hours, .long nw_restless]), (nw_Aheight, z_a G.2.1 36 nw_height), (nw_Adrops, z_a G.2.1 36 nw_drops), (og_o, z_o 0 [z_i og_rows_1, z_i og_columns_1, z_i og_cells_1, .ref og_Akind, .ref og_Abeside, .ref og_AbesideBits]), (og_Akind, z_a G.2.1 36 og_kind_1), (og_Abeside, z_a G.2.1 144 og_beside_1), (og_AbesideBits, z_l G.2.2.1 36 og_besideBits_1), (la_o, z_o 4 [.ref la_Aheight, .ref la_Adrops, z_i la_hours_1, .long la_restless_1]), (la_Aheight, z_a G.2.1 36 la_height_1), (la_Adrops, z_a G.2.1 36 la_drops_1), (ss_o, z_o 2 [.ref ss_Astate, .ref ss_Awaiting, z_i ss_waits_1, z_i ss_cells_1, z_i ss_many_1]), (ss_Astate, z_a G.2.1 36 ss_state_1), (ss_Awaiting, z_a G.2.1 36 ss_waiting_1)]) rfl 0 rfl rfl rfl [] rfl (Nat.le_of_ble_eq_true rfl) ⟨Nat.le_of_ble_eq_true rfl, Nat.le_of_ble_eq_true rfl⟩ ⟨rfl, rfl⟩ ⟨Nat.zero_le _, Nat.zero_le _⟩ (fun hF => ?_)
                obtain ⟨hb_r21, -⟩ := hF
                refine z_if_eq (tgt := 108) C (z_n01 hb_r21) dX5_kerb_68 (by decide) (fun c23 => ?_) (fun c23 => ?_)
                · have hm := z_pos c23 hm
                  obtain ⟨c24, hm⟩ := z_chk_some hm
                  refine z_iinc C dX5_kerb_108 4 rfl (by decide) (L' := [(4, z_i (v4_1 + 1)), (0, .ref m_o), (1, z_i x1), (2, z_i x2), (3, z_i x3)]) rfl ?_
                  refine z_goto (tgt := 41) C dX5_kerb_111 (by decide) ?_
                  refine z_sub (L' := [(0, .ref m_o), (1, z_i x1), (2, z_i x2), (3, z_i x3), (4, z_i (v4_1 + 1))]) [1, 2, 3, 4, 0] rfl ?_
                  exact ih1 (v4_1 + 1) og_rows_1 og_columns_1 og_cells_1 og_kind_1 og_beside_1 og_besideBits_1 la_height_1 la_drops_1 la_hours_1 la_restless_1 ss_state_1 ss_waiting_1 ss_waits_1 ss_cells_1 ss_many_1 c24 h_og_rows_1 h_og_columns_1 h_og_cells_1 h_og_kind_1 h_og_beside_1 h_la_height_1 h_la_drops_1 h_la_hours_1 h_ss_state_1 h_ss_waiting_1 h_ss_waits_1 h_ss_cells_1 h_ss_many_1 hm
                · have hm := z_neg c23 hm
                  refine z_aload_n C dX5_kerb_71 0 rfl ?_
                  refine z_get C zf_X5_30 dX5_kerb_72 0 rfl rfl ?_
                  refine z_aload_n C dX5_kerb_75 0 rfl ?_
                  refine z_get C zf_X5_19 dX5_kerb_76 0 rfl rfl ?_
                  obtain ⟨og_rows_25, og_columns_26, og_cells_27, og_kind_28, og_beside_29, og_besideBits_30, k31, hm⟩ := z_b6s hm
                  refine z_callVv C (k_X0_copyFrom l G N og_o og_Akind og_Abeside og_AbesideBits gr_o gr_Akind gr_Abeside gr_AbesideBits og_rows_1 og_columns_1 og_cells_1 og_kind_1 og_beside_1 og_besideBits_1 gr_rows gr_columns gr_cells gr_kind gr_beside gr_besideBits h_og_rows_1 h_og_columns_1 h_og_cells_1 h_og_kind_1 h_og_beside_1 h_gr_rows h_gr_columns h_gr_cells h_gr_kind h_gr_beside og_rows_25 og_columns_26 og_cells_27 og_kind_28 og_beside_29 og_besideBits_30 k31) zv_X0_copyFrom zl_X5_193 dX5_kerb_79 [10, 11, 12, 13, 3, 4, 5, 6] rfl rfl rfl (ws' := [(m_o, z_o 5 [.ref tx_o, .ref gr_o, .ref nw_o, .ref og_o, .ref la_o, .ref ss_o, .ref un_o, .ref kp_o, .ref m_AringCell, .ref m_AringDrops, z_i m_rings]), (m_AringCell, z_a G.2.1 6 m_ringCell), (m_AringDrops, z_a G.2.1 6 m_ringDrops), (gr_o, z_o 0 [z_i gr_rows, z_i gr_columns, z_i gr_cells, .ref gr_Akind, .ref gr_Abeside, .ref gr_AbesideBits]), (gr_Akind, z_a G.2.1 36 gr_kind), (gr_Abeside, z_a G.2.1 144 gr_beside), (gr_AbesideBits, z_l G.2.2.1 36 gr_besideBits), (nw_o, z_o 4 [.ref nw_Aheight, .ref nw_Adrops, z_i nw_hours, .long nw_restless]), (nw_Aheight, z_a G.2.1 36 nw_height), (nw_Adrops, z_a G.2.1 36 nw_drops), (og_o, z_o 0 [z_i og_rows_25, z_i og_columns_26, z_i og_cells_27, .ref og_Akind, .ref og_Abeside, .ref og_AbesideBits]), (og_Akind, z_a G.2.1 36 og_kind_28), (og_Abeside, z_a G.2.1 144 og_beside_29), (og_AbesideBits, z_l G.2.2.1 36 og_besideBits_30), (la_o, z_o 4 [.ref la_Aheight, .ref la_Adrops, z_i la_hours_1, .long la_restless_1]), (la_Aheight, z_a G.2.1 36 la_height_1), (la_Adrops, z_a G.2.1 36 la_drops_1), (ss_o, z_o 2 [.ref ss_Astate, .ref ss_Awaiting, z_i ss_waits_1, z_i ss_cells_1, z_i ss_many_1]), (ss_Astate, z_a G.2.1 36 ss_state_1), (ss_Awaiting, z_a G.2.1 36 ss_waiting_1)]) rfl 10 rfl rfl rfl [] rfl (Nat.le_of_ble_eq_true rfl) ⟨Nat.le_of_ble_eq_true rfl, Nat.le_of_ble_eq_true rfl⟩ ⟨rfl, rfl⟩ ⟨Nat.zero_le _, Nat.zero_le _⟩ (fun hF => ?_)
                  obtain ⟨h_og_rows_25, h_og_columns_26, h_og_cells_27, h_og_kind_28, h_og_beside_29, -⟩ := hF
                  refine z_aload_n C dX5_kerb_82 0 rfl ?_
                  refine z_get C zf_X5_30 dX5_kerb_83 0 rfl rfl ?_
                  refine z_iload C dX5_kerb_86 4 rfl ?_
                  obtain ⟨og_kind_32, og_beside_33, og_besideBits_34, k35, hm⟩ := z_b3s hm
                  refine z_callVv C (k_X0_makeKerb l G N og_o og_Akind og_Abeside og_AbesideBits og_rows_25 og_columns_26 og_cells_27 og_kind_28 og_beside_29 og_besideBits_30 v4_1 h_og_rows_25 h_og_columns_26 h_og_cells_27 h_og_kind_28 h_og_beside_29 h_v4_1 og_kind_32 og_beside_33 og_besideBits_34 k35) zv_X0_makeKerb zl_X5_195 dX5_kerb_88 [10, 11, 12, 13] rfl rfl rfl (ws' := [(m_o, z_o 5 [.ref tx_o, .ref gr_o, .ref nw_o, .ref og_o, .ref la_o, .ref ss_o, .ref un_o, .ref kp_o, .ref m_AringCell, .ref m_AringDrops, z_i m_rings]), (m_AringCell, z_a G.2.1 6 m_ringCell), (m_AringDrops, z_a G.2.1 6 m_ringDrops), (gr_o, z_o 0 [z_i gr_rows, z_i gr_columns, z_i gr_cells, .ref gr_Akind, .ref gr_Abeside, .ref gr_AbesideBits]), (gr_Akind, z_a G.2.1 36 gr_kind), (gr_Abeside, z_a G.2.1 144 gr_beside), (gr_AbesideBits, z_l G.2.2.1 36 gr_besideBits), (nw_o, z_o 4 [.ref nw_Aheight, .ref nw_Adrops, z_i nw_hours, .long nw_restless]), (nw_Aheight, z_a G.2.1 36 nw_height), (nw_Adrops, z_a G.2.1 36 nw_drops), (og_o, z_o 0 [z_i og_rows_25, z_i og_columns_26, z_i og_cells_27, .ref og_Akind, .ref og_Abeside, .ref og_AbesideBits]), (og_Akind, z_a G.2.1 36 og_kind_32), (og_Abeside, z_a G.2.1 144 og_beside_33), (og_AbesideBits, z_l G.2.2.1 36 og_besideBits_34), (la_o, z_o 4 [.ref la_Aheight, .ref la_Adrops, z_i la_hours_1, .long la_restless_1]), (la_Aheight, z_a G.2.1 36 la_height_1), (la_Adrops, z_a G.2.1 36 la_drops_1), (ss_o, z_o 2 [.ref ss_Astate, .ref ss_Awaiting, z_i ss_waits_1, z_i ss_cells_1, z_i ss_many_1]), (ss_Astate, z_a G.2.1 36 ss_state_1), (ss_Awaiting, z_a G.2.1 36 ss_waiting_1)]) rfl 10 rfl rfl rfl [] rfl (Nat.le_of_ble_eq_true rfl) ⟨Nat.le_of_ble_eq_true rfl, Nat.le_of_ble_eq_true rfl⟩ ⟨rfl, rfl⟩ ⟨Nat.zero_le _, Nat.zero_le _⟩ (fun hF => ?_)
                  obtain ⟨h_og_kind_32, h_og_beside_33, -⟩ := hF
                  refine z_aload_n C dX5_kerb_91 0 rfl ?_
                  refine z_aload_n C dX5_kerb_92 0 rfl ?_
                  refine z_get C zf_X5_30 dX5_kerb_93 0 rfl rfl ?_
                  refine z_iload_n C dX5_kerb_96 1 rfl ?_
                  refine z_iload_n C dX5_kerb_97 2 rfl ?_
                  refine z_iload_n C dX5_kerb_98 3 rfl ?_
                  obtain ⟨r36, la_height_37, la_drops_38, la_hours_39, la_restless_40, ss_state_41, ss_waiting_42, ss_waits_43, ss_cells_44, ss_many_45, k46, hm⟩ := z_b10s hm
                  refine z_callVi C (k_X5_apartBehindRain l G N m_o tx_o gr_o nw_o og_o la_o ss_o un_o kp_o m_AringCell m_AringDrops og_o og_Akind og_Abeside og_AbesideBits nw_Aheight nw_Adrops la_Aheight la_Adrops ss_Astate ss_Awaiting m_ringCell m_ringDrops m_rings og_rows_25 og_columns_26 og_cells_27 og_kind_32 og_beside_33 og_besideBits_34 nw_height nw_drops nw_hours nw_restless la_height_1 la_drops_1 la_hours_1 la_restless_1 ss_state_1 ss_waiting_1 ss_waits_1 ss_cells_1 ss_many_1 x1 x2 x3 h_m_ringCell h_m_ringDrops h_m_rings h_og_rows_25 h_og_columns_26 h_og_cells_27 h_og_kind_32 h_og_beside_33 h_nw_height h_nw_drops h_nw_hours h_la_height_1 h_la_drops_1 h_la_hours_1 h_ss_state_1 h_ss_waiting_1 h_ss_waits_1 h_ss_cells_1 h_ss_many_1 h_x1 h_x2 h_x3 r36 la_height_37 la_drops_38 la_hours_39 la_restless_40 ss_state_41 ss_waiting_42 ss_waits_43 ss_cells_44 ss_many_45 k46) zv_X5_apartBehindRain zl_X5_175 dX5_kerb_99 [0, 1, 2, 10, 11, 12, 13, 7, 8, 9, 14, 15, 16, 17, 18, 19] rfl rfl rfl (ws' := [(m_o, z_o 5 [.ref tx_o, .ref gr_o, .ref nw_o, .ref og_o, .ref la_o, .ref ss_o, .ref un_o, .ref kp_o, .ref m_AringCell, .ref m_AringDrops, z_i m_rings]), (m_AringCell, z_a G.2.1 6 m_ringCell), (m_AringDrops, z_a G.2.1 6 m_ringDrops), (gr_o, z_o 0 [z_i gr_rows, z_i gr_columns, z_i gr_cells, .ref gr_Akind, .ref gr_Abeside, .ref gr_AbesideBits]), (gr_Akind, z_a G.2.1 36 gr_kind), (gr_Abeside, z_a G.2.1 144 gr_beside), (gr_AbesideBits, z_l G.2.2.1 36 gr_besideBits), (nw_o, z_o 4 [.ref nw_Aheight, .ref nw_Adrops, z_i nw_hours, .long nw_restless]), (nw_Aheight, z_a G.2.1 36 nw_height), (nw_Adrops, z_a G.2.1 36 nw_drops), (og_o, z_o 0 [z_i og_rows_25, z_i og_columns_26, z_i og_cells_27, .ref og_Akind, .ref og_Abeside, .ref og_AbesideBits]), (og_Akind, z_a G.2.1 36 og_kind_32), (og_Abeside, z_a G.2.1 144 og_beside_33), (og_AbesideBits, z_l G.2.2.1 36 og_besideBits_34), (la_o, z_o 4 [.ref la_Aheight, .ref la_Adrops, z_i la_hours_39, .long la_restless_40]), (la_Aheight, z_a G.2.1 36 la_height_37), (la_Adrops, z_a G.2.1 36 la_drops_38), (ss_o, z_o 2 [.ref ss_Astate, .ref ss_Awaiting, z_i ss_waits_43, z_i ss_cells_44, z_i ss_many_45]), (ss_Astate, z_a G.2.1 36 ss_state_41), (ss_Awaiting, z_a G.2.1 36 ss_waiting_42)]) rfl 0 rfl rfl rfl [] rfl (Nat.le_of_ble_eq_true rfl) ⟨Nat.le_of_ble_eq_true rfl, Nat.le_of_ble_eq_true rfl⟩ ⟨rfl, rfl⟩ ⟨Nat.zero_le _, Nat.zero_le _⟩ (fun hF => ?_)
                  obtain ⟨hb_r36, h_la_height_37, h_la_drops_38, h_la_hours_39, h_ss_state_41, h_ss_waiting_42, h_ss_waits_43, h_ss_cells_44, h_ss_many_45, -⟩ := hF
                  refine z_if_eq (tgt := 108) C (z_n01 hb_r36) dX5_kerb_102 (by decide) (fun c47 => ?_) (fun c47 => ?_)
                  · have hm := z_pos c47 hm
                    obtain ⟨c48, hm⟩ := z_chk_some hm
                    refine z_iinc C dX5_kerb_108 4 rfl (by decide) (L' := [(4, z_i (v4_1 + 1)), (0, .ref m_o), (1, z_i x1), (2, z_i x2), (3, z_i x3)]) rfl ?_
                    refine z_goto (tgt := 41) C dX5_kerb_111 (by decide) ?_
                    refine z_sub (L' := [(0, .ref m_o), (1, z_i x1), (2, z_i x2), (3, z_i x3), (4, z_i (v4_1 + 1))]) [1, 2, 3, 4, 0] rfl ?_
                    exact ih1 (v4_1 + 1) og_rows_25 og_columns_26 og_cells_27 og_kind_32 og_beside_33 og_besideBits_34 la_height_37 la_drops_38 la_hours_39 la_restless_40 ss_state_41 ss_waiting_42 ss_waits_43 ss_cells_44 ss_many_45 c48 h_og_rows_25 h_og_columns_26 h_og_cells_27 h_og_kind_32 h_og_beside_33 h_la_height_37 h_la_drops_38 h_la_hours_39 h_ss_state_41 h_ss_waiting_42 h_ss_waits_43 h_ss_cells_44 h_ss_many_45 hm
                  · have hm := z_neg c47 hm
                    refine z_iload C dX5_kerb_105 4 rfl ?_
                    cases hm
                    exact z_iret C E dX5_kerb_107 ⟨rfl, rfl, h_v4_1, h_og_rows_25, h_og_columns_26, h_og_cells_27, h_og_kind_32, h_og_beside_33, h_la_height_37, h_la_drops_38, h_la_hours_39, h_ss_state_41, h_ss_waiting_42, h_ss_waits_43, h_ss_cells_44, h_ss_many_45, trivial⟩
        refine z_sub (L' := [(0, .ref m_o), (1, z_i x1), (2, z_i x2), (3, z_i x3), (4, z_i 0)]) [1, 2, 3, 4, 0] rfl ?_
        exact L1 N 0 og_rows og_columns og_cells og_kind og_beside og_besideBits la_height_8 la_drops_9 la_hours_10 la_restless_11 ss_state_12 ss_waiting_13 ss_waits_14 ss_cells_15 ss_many_16 (z_k 0 rfl) h_og_rows h_og_columns h_og_cells h_og_kind h_og_beside h_la_height_8 h_la_drops_9 h_la_hours_10 h_ss_state_12 h_ss_waiting_13 h_ss_waits_14 h_ss_cells_15 h_ss_many_16 hm
      · have hm := z_neg c18 hm
        refine z_bipush C dX5_kerb_35 (by decide) ?_
        cases hm
        exact z_iret C E dX5_kerb_37 ⟨rfl, rfl, (z_k 100 rfl), h_og_rows, h_og_columns, h_og_cells, h_og_kind, h_og_beside, h_la_height_8, h_la_drops_9, h_la_hours_10, h_ss_state_12, h_ss_waiting_13, h_ss_waits_14, h_ss_cells_15, h_ss_many_16, trivial⟩
    · have hm := z_neg c6 hm
      refine z_iconst C dX5_kerb_19 ?_
      cases hm
      exact z_iret C E dX5_kerb_20 ⟨rfl, rfl, (z_k (-1) rfl), h_og_rows, h_og_columns, h_og_cells, h_og_kind, h_og_beside, h_la_height, h_la_drops, h_la_hours, h_ss_state, h_ss_waiting, h_ss_waits, h_ss_cells, h_ss_many, trivial⟩
set_option maxRecDepth 100000 in
theorem k_X5_ring (l : Launch) (G : z_G) (N : Nat) (m_o tx_o gr_o nw_o og_o la_o ss_o un_o kp_o m_AringCell m_AringDrops gr_Akind gr_Abeside gr_AbesideBits : Nat) (m_ringCell : (Int → Int)) (m_ringDrops : (Int → Int)) (m_rings : Int) (gr_rows : Int) (gr_columns : Int) (gr_cells : Int) (gr_kind : (Int → Int)) (gr_beside : (Int → Int)) (gr_besideBits : (Int → Int64)) (x1 : Int) (x2 : Int) (h_m_ringCell : z_r m_ringCell) (h_m_ringDrops : z_r m_ringDrops) (h_m_rings : z_n m_rings) (h_gr_rows : z_n gr_rows) (h_gr_columns : z_n gr_columns) (h_gr_cells : z_n gr_cells) (h_gr_kind : z_r gr_kind) (h_gr_beside : z_r gr_beside) (h_x1 : z_n x1) (h_x2 : z_n x2) (rr : Int) (q_m_ringCell : (Int → Int)) (q_m_ringDrops : (Int → Int)) (q_m_rings : Int) (hm : m_X5_ring N m_ringCell m_ringDrops m_rings gr_cells x1 x2 = some (rr, q_m_ringCell, q_m_ringDrops, q_m_rings)) : z_M l G yX5_ring cX5_ring 3 (some .int) (k2_rm 1 22) [.ref m_o, z_i x1, z_i x2] ([(m_o, z_o 5 [.ref tx_o, .ref gr_o, .ref nw_o, .ref og_o, .ref la_o, .ref ss_o, .ref un_o, .ref kp_o, .ref m_AringCell, .ref m_AringDrops, z_i m_rings]), (m_AringCell, z_a G.2.1 6 m_ringCell), (m_AringDrops, z_a G.2.1 6 m_ringDrops), (gr_o, z_o 0 [z_i gr_rows, z_i gr_columns, z_i gr_cells, .ref gr_Akind, .ref gr_Abeside, .ref gr_AbesideBits]), (gr_Akind, z_a G.2.1 36 gr_kind), (gr_Abeside, z_a G.2.1 144 gr_beside), (gr_AbesideBits, z_l G.2.2.1 36 gr_besideBits)]) 0 0 (fun v w => v = some (z_i rr) ∧ w = [(m_o, z_o 5 [.ref tx_o, .ref gr_o, .ref nw_o, .ref og_o, .ref la_o, .ref ss_o, .ref un_o, .ref kp_o, .ref m_AringCell, .ref m_AringDrops, z_i q_m_rings]), (m_AringCell, z_a G.2.1 6 q_m_ringCell), (m_AringDrops, z_a G.2.1 6 q_m_ringDrops), (gr_o, z_o 0 [z_i gr_rows, z_i gr_columns, z_i gr_cells, .ref gr_Akind, .ref gr_Abeside, .ref gr_AbesideBits]), (gr_Akind, z_a G.2.1 36 gr_kind), (gr_Abeside, z_a G.2.1 144 gr_beside), (gr_AbesideBits, z_l G.2.2.1 36 gr_besideBits)] ∧ z_n rr ∧ z_r q_m_ringCell ∧ z_r q_m_ringDrops ∧ z_n q_m_rings ∧ True) := by
  unfold m_X5_ring at hm
  refine z_M.intro (by decide +kernel) (Nat.le_of_ble_eq_true rfl) (L := [(0, .ref m_o), (1, z_i x1), (2, z_i x2)]) rfl (fun X C E => ?_)
  refine z_aload_n C dX5_ring_0 0 rfl ?_
  refine z_get C zf_X5_19 dX5_ring_1 0 rfl rfl ?_
  refine z_iload_n C dX5_ring_4 1 rfl ?_
  obtain ⟨r1, k2, hm⟩ := z_b1s hm
  refine z_callVi C (k_X0_holds l G N gr_o gr_Akind gr_Abeside gr_AbesideBits gr_rows gr_columns gr_cells gr_kind gr_beside gr_besideBits x1 h_gr_rows h_gr_columns h_gr_cells h_gr_kind h_gr_beside h_x1 r1 k2) zv_X0_holds zl_X5_96 dX5_ring_5 [3, 4, 5, 6] rfl rfl rfl (ws' := [(m_o, z_o 5 [.ref tx_o, .ref gr_o, .ref nw_o, .ref og_o, .ref la_o, .ref ss_o, .ref un_o, .ref kp_o, .ref m_AringCell, .ref m_AringDrops, z_i m_rings]), (m_AringCell, z_a G.2.1 6 m_ringCell), (m_AringDrops, z_a G.2.1 6 m_ringDrops), (gr_o, z_o 0 [z_i gr_rows, z_i gr_columns, z_i gr_cells, .ref gr_Akind, .ref gr_Abeside, .ref gr_AbesideBits]), (gr_Akind, z_a G.2.1 36 gr_kind), (gr_Abeside, z_a G.2.1 144 gr_beside), (gr_AbesideBits, z_l G.2.2.1 36 gr_besideBits)]) rfl 3 rfl rfl rfl [] rfl (Nat.le_of_ble_eq_true rfl) ⟨Nat.le_of_ble_eq_true rfl, Nat.le_of_ble_eq_true rfl⟩ ⟨rfl, rfl⟩ ⟨Nat.zero_le _, Nat.zero_le _⟩ (fun hF => ?_)
  obtain ⟨hb_r1, -⟩ := hF
  refine z_if_eq (tgt := 21) C (z_n01 hb_r1) dX5_ring_8 (by decide) (fun c3 => ?_) (fun c3 => ?_)
  · have hm := z_pos c3 hm
    refine z_iconst C dX5_ring_21 ?_
    cases hm
    exact z_iret C E dX5_ring_22 ⟨rfl, rfl, (z_k (-1) rfl), h_m_ringCell, h_m_ringDrops, h_m_rings, trivial⟩
  · have hm := z_neg c3 hm
    refine z_iload_n C dX5_ring_11 2 rfl ?_
    refine z_iconst C dX5_ring_12 ?_
    refine z_bipush C dX5_ring_13 (by decide) ?_
    obtain ⟨r4, k5, hm⟩ := z_b1s hm
    refine z_callSi C (k_X5_isFrom l G N x2 0 60 h_x2 (z_k 0 rfl) (z_k 60 rfl) r4 k5) zs_X5_isFrom zl_X5_100 dX5_ring_15 [] rfl rfl rfl (ws' := [(m_o, z_o 5 [.ref tx_o, .ref gr_o, .ref nw_o, .ref og_o, .ref la_o, .ref ss_o, .ref un_o, .ref kp_o, .ref m_AringCell, .ref m_AringDrops, z_i m_rings]), (m_AringCell, z_a G.2.1 6 m_ringCell), (m_AringDrops, z_a G.2.1 6 m_ringDrops), (gr_o, z_o 0 [z_i gr_rows, z_i gr_columns, z_i gr_cells, .ref gr_Akind, .ref gr_Abeside, .ref gr_AbesideBits]), (gr_Akind, z_a G.2.1 36 gr_kind), (gr_Abeside, z_a G.2.1 144 gr_beside), (gr_AbesideBits, z_l G.2.2.1 36 gr_besideBits)]) rfl rfl [] rfl (Nat.le_of_ble_eq_true rfl) ⟨Nat.le_of_ble_eq_true rfl, Nat.le_of_ble_eq_true rfl⟩ ⟨rfl, rfl⟩ ⟨Nat.zero_le _, Nat.zero_le _⟩ (fun hF => ?_)
    obtain ⟨hb_r4, -⟩ := hF
    refine z_if_ne (tgt := 23) C (z_n01 hb_r4) dX5_ring_18 (by decide) (fun c6 => ?_) (fun c6 => ?_)
    · have hm := z_pos c6 hm
      refine z_aload_n C dX5_ring_23 0 rfl ?_
      refine z_get C zf_X5_60 dX5_ring_24 0 rfl rfl ?_
      refine z_if_lt (tgt := 39) C h_m_rings dX5_ring_27 (by decide) (fun c7 => ?_) (fun c7 => ?_)
      · have hm := z_pos c7 hm
        refine z_bipush C dX5_ring_39 (by decide) ?_
        cases hm
        exact z_iret C E dX5_ring_41 ⟨rfl, rfl, (z_k (-3) rfl), h_m_ringCell, h_m_ringDrops, h_m_rings, trivial⟩
      · have hm := z_neg c7 hm
        refine z_aload_n C dX5_ring_30 0 rfl ?_
        refine z_get C zf_X5_60 dX5_ring_31 0 rfl rfl ?_
        refine z_bipush C dX5_ring_34 (by decide) ?_
        refine z_icmp_lt (tgt := 42) C h_m_rings (z_k 6 rfl) dX5_ring_36 (by decide) (fun c8 => ?_) (fun c8 => ?_)
        · have hm := z_pos c8 hm
          refine z_aload_n C dX5_ring_42 0 rfl ?_
          refine z_get C zf_X5_53 dX5_ring_43 0 rfl rfl ?_
          refine z_aload_n C dX5_ring_46 0 rfl ?_
          refine z_get C zf_X5_60 dX5_ring_47 0 rfl rfl ?_
          refine z_iload_n C dX5_ring_50 1 rfl ?_
          obtain ⟨c9, hm⟩ := z_chk_some hm
          refine z_iast C dX5_ring_51 1 rfl c9 h_m_rings (ws' := [(m_o, z_o 5 [.ref tx_o, .ref gr_o, .ref nw_o, .ref og_o, .ref la_o, .ref ss_o, .ref un_o, .ref kp_o, .ref m_AringCell, .ref m_AringDrops, z_i m_rings]), (m_AringCell, z_a G.2.1 6 (z_up m_ringCell m_rings x1)), (m_AringDrops, z_a G.2.1 6 m_ringDrops), (gr_o, z_o 0 [z_i gr_rows, z_i gr_columns, z_i gr_cells, .ref gr_Akind, .ref gr_Abeside, .ref gr_AbesideBits]), (gr_Akind, z_a G.2.1 36 gr_kind), (gr_Abeside, z_a G.2.1 144 gr_beside), (gr_AbesideBits, z_l G.2.2.1 36 gr_besideBits)]) rfl ?_
          refine z_aload_n C dX5_ring_52 0 rfl ?_
          refine z_get C zf_X5_57 dX5_ring_53 0 rfl rfl ?_
          refine z_aload_n C dX5_ring_56 0 rfl ?_
          refine z_get C zf_X5_60 dX5_ring_57 0 rfl rfl ?_
          refine z_iload_n C dX5_ring_60 2 rfl ?_
          obtain ⟨c10, hm⟩ := z_chk_some hm
          refine z_iast C dX5_ring_61 2 rfl c10 h_m_rings (ws' := [(m_o, z_o 5 [.ref tx_o, .ref gr_o, .ref nw_o, .ref og_o, .ref la_o, .ref ss_o, .ref un_o, .ref kp_o, .ref m_AringCell, .ref m_AringDrops, z_i m_rings]), (m_AringCell, z_a G.2.1 6 (z_up m_ringCell m_rings x1)), (m_AringDrops, z_a G.2.1 6 (z_up m_ringDrops m_rings x2)), (gr_o, z_o 0 [z_i gr_rows, z_i gr_columns, z_i gr_cells, .ref gr_Akind, .ref gr_Abeside, .ref gr_AbesideBits]), (gr_Akind, z_a G.2.1 36 gr_kind), (gr_Abeside, z_a G.2.1 144 gr_beside), (gr_AbesideBits, z_l G.2.2.1 36 gr_besideBits)]) rfl ?_
          refine z_aload_n C dX5_ring_62 0 rfl ?_
          refine z_dup C rfl dX5_ring_63 ?_
          refine z_get C zf_X5_60 dX5_ring_64 0 rfl rfl ?_
          refine z_iconst C dX5_ring_67 ?_
          obtain ⟨c11, hm⟩ := z_chk_some hm
          refine z_iadd C dX5_ring_68 ?_
          refine z_puti C zf_X5_60 dX5_ring_69 0 rfl rfl (ws' := [(m_o, z_o 5 [.ref tx_o, .ref gr_o, .ref nw_o, .ref og_o, .ref la_o, .ref ss_o, .ref un_o, .ref kp_o, .ref m_AringCell, .ref m_AringDrops, z_i (m_rings + 1)]), (m_AringCell, z_a G.2.1 6 (z_up m_ringCell m_rings x1)), (m_AringDrops, z_a G.2.1 6 (z_up m_ringDrops m_rings x2)), (gr_o, z_o 0 [z_i gr_rows, z_i gr_columns, z_i gr_cells, .ref gr_Akind, .ref gr_Abeside, .ref gr_AbesideBits]), (gr_Akind, z_a G.2.1 36 gr_kind), (gr_Abeside, z_a G.2.1 144 gr_beside), (gr_AbesideBits, z_l G.2.2.1 36 gr_besideBits)]) rfl ?_
          refine z_aload_n C dX5_ring_72 0 rfl ?_
          refine z_get C zf_X5_60 dX5_ring_73 0 rfl rfl ?_
          cases hm
          exact z_iret C E dX5_ring_76 ⟨rfl, rfl, c11, (z_r_up h_m_ringCell h_x1), (z_r_up h_m_ringDrops h_x2), c11, trivial⟩
        · have hm := z_neg c8 hm
          refine z_bipush C dX5_ring_39 (by decide) ?_
          cases hm
          exact z_iret C E dX5_ring_41 ⟨rfl, rfl, (z_k (-3) rfl), h_m_ringCell, h_m_ringDrops, h_m_rings, trivial⟩
    · have hm := z_neg c6 hm
      refine z_iconst C dX5_ring_21 ?_
      cases hm
      exact z_iret C E dX5_ring_22 ⟨rfl, rfl, (z_k (-1) rfl), h_m_ringCell, h_m_ringDrops, h_m_rings, trivial⟩
set_option maxRecDepth 100000 in
theorem k_X5_forget (l : Launch) (G : z_G) (N : Nat) (m_o tx_o gr_o nw_o og_o la_o ss_o un_o kp_o m_AringCell m_AringDrops : Nat) (m_ringCell : (Int → Int)) (m_ringDrops : (Int → Int)) (m_rings : Int) (h_m_ringCell : z_r m_ringCell) (h_m_ringDrops : z_r m_ringDrops) (h_m_rings : z_n m_rings) (rr : Int) (q_m_rings : Int) (hm : m_X5_forget N m_rings = some (rr, q_m_rings)) : z_M l G yX5_forget cX5_forget 2 (some .int) (k2_rm 0 0) [.ref m_o] ([(m_o, z_o 5 [.ref tx_o, .ref gr_o, .ref nw_o, .ref og_o, .ref la_o, .ref ss_o, .ref un_o, .ref kp_o, .ref m_AringCell, .ref m_AringDrops, z_i m_rings]), (m_AringCell, z_a G.2.1 6 m_ringCell), (m_AringDrops, z_a G.2.1 6 m_ringDrops)]) 0 0 (fun v w => v = some (z_i rr) ∧ w = [(m_o, z_o 5 [.ref tx_o, .ref gr_o, .ref nw_o, .ref og_o, .ref la_o, .ref ss_o, .ref un_o, .ref kp_o, .ref m_AringCell, .ref m_AringDrops, z_i q_m_rings]), (m_AringCell, z_a G.2.1 6 m_ringCell), (m_AringDrops, z_a G.2.1 6 m_ringDrops)] ∧ z_n rr ∧ z_n q_m_rings ∧ True) := by
  unfold m_X5_forget at hm
  refine z_M.intro (by decide +kernel) (Nat.le_of_ble_eq_true rfl) (L := [(0, .ref m_o)]) rfl (fun X C E => ?_)
  refine z_aload_n C dX5_forget_0 0 rfl ?_
  refine z_get C zf_X5_60 dX5_forget_1 0 rfl rfl ?_
  refine z_istore_n C dX5_forget_4 (by decide) (L' := [(1, z_i m_rings), (0, .ref m_o)]) rfl ?_
  refine z_aload_n C dX5_forget_5 1 rfl ?_
  refine z_iconst C dX5_forget_6 ?_
  refine z_puti C zf_X5_60 dX5_forget_7 0 rfl rfl (ws' := [(m_o, z_o 5 [.ref tx_o, .ref gr_o, .ref nw_o, .ref og_o, .ref la_o, .ref ss_o, .ref un_o, .ref kp_o, .ref m_AringCell, .ref m_AringDrops, z_i 0]), (m_AringCell, z_a G.2.1 6 m_ringCell), (m_AringDrops, z_a G.2.1 6 m_ringDrops)]) rfl ?_
  refine z_iload_n C dX5_forget_10 0 rfl ?_
  cases hm
  exact z_iret C E dX5_forget_11 ⟨rfl, rfl, h_m_rings, (z_k 0 rfl), trivial⟩
set_option maxRecDepth 100000 in
theorem k_X5_ringsHold (l : Launch) (G : z_G) (N : Nat) (m_o tx_o gr_o nw_o og_o la_o ss_o un_o kp_o m_AringCell m_AringDrops gr_Akind gr_Abeside gr_AbesideBits la_Aheight la_Adrops : Nat) (m_ringCell : (Int → Int)) (m_ringDrops : (Int → Int)) (m_rings : Int) (gr_rows : Int) (gr_columns : Int) (gr_cells : Int) (gr_kind : (Int → Int)) (gr_beside : (Int → Int)) (gr_besideBits : (Int → Int64)) (la_height : (Int → Int)) (la_drops : (Int → Int)) (la_hours : Int) (la_restless : Int64) (h_m_ringCell : z_r m_ringCell) (h_m_ringDrops : z_r m_ringDrops) (h_m_rings : z_n m_rings) (h_gr_rows : z_n gr_rows) (h_gr_columns : z_n gr_columns) (h_gr_cells : z_n gr_cells) (h_gr_kind : z_r gr_kind) (h_gr_beside : z_r gr_beside) (h_la_height : z_r la_height) (h_la_drops : z_r la_drops) (h_la_hours : z_n la_hours) (rr : Int) (hm : m_X5_ringsHold N m_ringCell m_ringDrops m_rings gr_cells la_drops = some (rr)) : z_M l G yX5_ringsHold cX5_ringsHold 3 (some .boolean) (k2_rm 1 21) [.ref m_o] ([(m_o, z_o 5 [.ref tx_o, .ref gr_o, .ref nw_o, .ref og_o, .ref la_o, .ref ss_o, .ref un_o, .ref kp_o, .ref m_AringCell, .ref m_AringDrops, z_i m_rings]), (m_AringCell, z_a G.2.1 6 m_ringCell), (m_AringDrops, z_a G.2.1 6 m_ringDrops), (gr_o, z_o 0 [z_i gr_rows, z_i gr_columns, z_i gr_cells, .ref gr_Akind, .ref gr_Abeside, .ref gr_AbesideBits]), (gr_Akind, z_a G.2.1 36 gr_kind), (gr_Abeside, z_a G.2.1 144 gr_beside), (gr_AbesideBits, z_l G.2.2.1 36 gr_besideBits), (la_o, z_o 4 [.ref la_Aheight, .ref la_Adrops, z_i la_hours, .long la_restless]), (la_Aheight, z_a G.2.1 36 la_height), (la_Adrops, z_a G.2.1 36 la_drops)]) 0 0 (fun v w => v = some (z_i rr) ∧ w = [(m_o, z_o 5 [.ref tx_o, .ref gr_o, .ref nw_o, .ref og_o, .ref la_o, .ref ss_o, .ref un_o, .ref kp_o, .ref m_AringCell, .ref m_AringDrops, z_i m_rings]), (m_AringCell, z_a G.2.1 6 m_ringCell), (m_AringDrops, z_a G.2.1 6 m_ringDrops), (gr_o, z_o 0 [z_i gr_rows, z_i gr_columns, z_i gr_cells, .ref gr_Akind, .ref gr_Abeside, .ref gr_AbesideBits]), (gr_Akind, z_a G.2.1 36 gr_kind), (gr_Abeside, z_a G.2.1 144 gr_beside), (gr_AbesideBits, z_l G.2.2.1 36 gr_besideBits), (la_o, z_o 4 [.ref la_Aheight, .ref la_Adrops, z_i la_hours, .long la_restless]), (la_Aheight, z_a G.2.1 36 la_height), (la_Adrops, z_a G.2.1 36 la_drops)] ∧ (rr = 0 ∨ rr = 1) ∧ True) := by
  unfold m_X5_ringsHold at hm
  refine z_M.intro (by decide +kernel) (Nat.le_of_ble_eq_true rfl) (L := [(0, .ref m_o)]) rfl (fun X C E => ?_)
  refine z_iconst C dX5_ringsHold_0 ?_
  refine z_istore_n C dX5_ringsHold_1 (by decide) (L' := [(1, z_i 0), (0, .ref m_o)]) rfl ?_
  have L1 : ∀ (n1 : Nat) (v1_1 : Int), z_n v1_1 → m_X5_ringsHold_l1 N m_rings gr_cells m_ringCell la_drops m_ringDrops n1 v1_1 = some (rr) → z_J X 0 0 ([(m_o, z_o 5 [.ref tx_o, .ref gr_o, .ref nw_o, .ref og_o, .ref la_o, .ref ss_o, .ref un_o, .ref kp_o, .ref m_AringCell, .ref m_AringDrops, z_i m_rings]), (m_AringCell, z_a G.2.1 6 m_ringCell), (m_AringDrops, z_a G.2.1 6 m_ringDrops), (gr_o, z_o 0 [z_i gr_rows, z_i gr_columns, z_i gr_cells, .ref gr_Akind, .ref gr_Abeside, .ref gr_AbesideBits]), (gr_Akind, z_a G.2.1 36 gr_kind), (gr_Abeside, z_a G.2.1 144 gr_beside), (gr_AbesideBits, z_l G.2.2.1 36 gr_besideBits), (la_o, z_o 4 [.ref la_Aheight, .ref la_Adrops, z_i la_hours, .long la_restless]), (la_Aheight, z_a G.2.1 36 la_height), (la_Adrops, z_a G.2.1 36 la_drops)]) [(0, .ref m_o), (1, z_i v1_1)] 2 [] := by
    clear hm
    intro n1
    induction n1 with
    | zero =>
      intro v1_1 h_v1_1 hm
      rw [m_X5_ringsHold_l1] at hm
      cases hm
    | succ n1 ih1 =>
      intro v1_1 h_v1_1 hm
      rw [m_X5_ringsHold_l1] at hm
      refine z_iload_n C dX5_ringsHold_2 1 rfl ?_
      refine z_aload_n C dX5_ringsHold_3 0 rfl ?_
      refine z_get C zf_X5_60 dX5_ringsHold_4 0 rfl rfl ?_
      refine z_icmp_ge (tgt := 60) C h_v1_1 h_m_rings dX5_ringsHold_7 (by decide) (fun c1 => ?_) (fun c1 => ?_)
      · have hm := z_pos c1 hm
        refine z_iconst C dX5_ringsHold_60 ?_
        cases hm
        exact z_zret C E (Or.inr rfl) dX5_ringsHold_61 ⟨rfl, rfl, (Or.inr rfl), trivial⟩
      · have hm := z_neg c1 hm
        refine z_iload_n C dX5_ringsHold_10 1 rfl ?_
        refine z_bipush C dX5_ringsHold_11 (by decide) ?_
        refine z_icmp_ge (tgt := 60) C h_v1_1 (z_k 6 rfl) dX5_ringsHold_13 (by decide) (fun c2 => ?_) (fun c2 => ?_)
        · have hm := z_pos c2 hm
          refine z_iconst C dX5_ringsHold_60 ?_
          cases hm
          exact z_zret C E (Or.inr rfl) dX5_ringsHold_61 ⟨rfl, rfl, (Or.inr rfl), trivial⟩
        · have hm := z_neg c2 hm
          refine z_aload_n C dX5_ringsHold_16 0 rfl ?_
          refine z_get C zf_X5_53 dX5_ringsHold_17 0 rfl rfl ?_
          refine z_iload_n C dX5_ringsHold_20 1 rfl ?_
          obtain ⟨c3, hm⟩ := z_chk_some hm
          refine z_iald C dX5_ringsHold_21 1 rfl c3 h_v1_1 ?_
          refine z_istore_n C dX5_ringsHold_22 (by decide) (L' := [(2, z_i (m_ringCell v1_1)), (0, .ref m_o), (1, z_i v1_1)]) rfl ?_
          refine z_aload_n C dX5_ringsHold_23 1 rfl ?_
          refine z_get C zf_X5_19 dX5_ringsHold_24 0 rfl rfl ?_
          refine z_iload_n C dX5_ringsHold_27 0 rfl ?_
          obtain ⟨r4, k5, hm⟩ := z_b1s hm
          refine z_callVi C (k_X0_holds l G N gr_o gr_Akind gr_Abeside gr_AbesideBits gr_rows gr_columns gr_cells gr_kind gr_beside gr_besideBits (m_ringCell v1_1) h_gr_rows h_gr_columns h_gr_cells h_gr_kind h_gr_beside (h_m_ringCell _) r4 k5) zv_X0_holds zl_X5_96 dX5_ringsHold_28 [3, 4, 5, 6] rfl rfl rfl (ws' := [(m_o, z_o 5 [.ref tx_o, .ref gr_o, .ref nw_o, .ref og_o, .ref la_o, .ref ss_o, .ref un_o, .ref kp_o, .ref m_AringCell, .ref m_AringDrops, z_i m_rings]), (m_AringCell, z_a G.2.1 6 m_ringCell), (m_AringDrops, z_a G.2.1 6 m_ringDrops), (gr_o, z_o 0 [z_i gr_rows, z_i gr_columns, z_i gr_cells, .ref gr_Akind, .ref gr_Abeside, .ref gr_AbesideBits]), (gr_Akind, z_a G.2.1 36 gr_kind), (gr_Abeside, z_a G.2.1 144 gr_beside), (gr_AbesideBits, z_l G.2.2.1 36 gr_besideBits), (la_o, z_o 4 [.ref la_Aheight, .ref la_Adrops, z_i la_hours, .long la_restless]), (la_Aheight, z_a G.2.1 36 la_height), (la_Adrops, z_a G.2.1 36 la_drops)]) rfl 3 rfl rfl rfl [] rfl (Nat.le_of_ble_eq_true rfl) ⟨Nat.le_of_ble_eq_true rfl, Nat.le_of_ble_eq_true rfl⟩ ⟨rfl, rfl⟩ ⟨Nat.zero_le _, Nat.zero_le _⟩ (fun hF => ?_)
          obtain ⟨hb_r4, -⟩ := hF
          refine z_if_eq (tgt := 52) C (z_n01 hb_r4) dX5_ringsHold_31 (by decide) (fun c6 => ?_) (fun c6 => ?_)
          · have hm := z_pos c6 hm
            refine z_iconst C dX5_ringsHold_52 ?_
            cases hm
            exact z_zret C E (Or.inl rfl) dX5_ringsHold_53 ⟨rfl, rfl, (Or.inl rfl), trivial⟩
          · have hm := z_neg c6 hm
            refine z_aload_n C dX5_ringsHold_34 1 rfl ?_
            refine z_get C zf_X5_33 dX5_ringsHold_35 0 rfl rfl ?_
            refine z_get C zf_X5_110 dX5_ringsHold_38 7 rfl rfl ?_
            refine z_iload_n C dX5_ringsHold_41 0 rfl ?_
            obtain ⟨c7, hm⟩ := z_chk_some hm
            refine z_iald C dX5_ringsHold_42 9 rfl c7 (h_m_ringCell _) ?_
            refine z_aload_n C dX5_ringsHold_43 1 rfl ?_
            refine z_get C zf_X5_57 dX5_ringsHold_44 0 rfl rfl ?_
            refine z_iload_n C dX5_ringsHold_47 2 rfl ?_
            obtain ⟨c8, hm⟩ := z_chk_some hm
            refine z_iald C dX5_ringsHold_48 2 rfl c8 h_v1_1 ?_
            refine z_icmp_eq (tgt := 54) C (h_la_drops _) (h_m_ringDrops _) dX5_ringsHold_49 (by decide) (fun c9 => ?_) (fun c9 => ?_)
            · have hm := z_pos c9 hm
              obtain ⟨c10, hm⟩ := z_chk_some hm
              refine z_iinc C dX5_ringsHold_54 2 rfl (by decide) (L' := [(1, z_i (v1_1 + 1)), (2, z_i (m_ringCell v1_1)), (0, .ref m_o)]) rfl ?_
              refine z_goto (tgt := 2) C dX5_ringsHold_57 (by decide) ?_
              refine z_sub (L' := [(0, .ref m_o), (1, z_i (v1_1 + 1))]) [2, 0] rfl ?_
              exact ih1 (v1_1 + 1) c10 hm
            · have hm := z_neg c9 hm
              refine z_iconst C dX5_ringsHold_52 ?_
              cases hm
              exact z_zret C E (Or.inl rfl) dX5_ringsHold_53 ⟨rfl, rfl, (Or.inl rfl), trivial⟩
  refine z_sub (L' := [(0, .ref m_o), (1, z_i 0)]) [1, 0] rfl ?_
  exact L1 N 0 (z_k 0 rfl) hm
