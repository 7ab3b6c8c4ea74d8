set_option maxRecDepth 100000 in
theorem k_X5_part (l : Launch) (G : z_G) (N : Nat) (m_o tx_o gr_o nw_o og_o la_o ss_o un_o kp_o m_AringCell m_AringDrops gr_Akind gr_Abeside gr_AbesideBits nw_Aheight nw_Adrops la_Aheight la_Adrops ss_Astate ss_Awaiting : Nat) (m_ringCell : (Int → Int)) (m_ringDrops : (Int → Int)) (m_rings : Int) (gr_rows : Int) (gr_columns : Int) (gr_cells : Int) (gr_kind : (Int → Int)) (gr_beside : (Int → Int)) (gr_besideBits : (Int → Int64)) (nw_height : (Int → Int)) (nw_drops : (Int → Int)) (nw_hours : Int) (nw_restless : Int64) (la_height : (Int → Int)) (la_drops : (Int → Int)) (la_hours : Int) (la_restless : Int64) (ss_state : (Int → Int)) (ss_waiting : (Int → Int)) (ss_waits : Int) (ss_cells : Int) (ss_many : Int) (x1 : Int) (x2 : Int) (h_m_ringCell : z_r m_ringCell) (h_m_ringDrops : z_r m_ringDrops) (h_m_rings : z_n m_rings) (h_gr_rows : z_n gr_rows) (h_gr_columns : z_n gr_columns) (h_gr_cells : z_n gr_cells) (h_gr_kind : z_r gr_kind) (h_gr_beside : z_r gr_beside) (h_nw_height : z_r nw_height) (h_nw_drops : z_r nw_drops) (h_nw_hours : z_n nw_hours) (h_la_height : z_r la_height) (h_la_drops : z_r la_drops) (h_la_hours : z_n la_hours) (h_ss_state : z_r ss_state) (h_ss_waiting : z_r ss_waiting) (h_ss_waits : z_n ss_waits) (h_ss_cells : z_n ss_cells) (h_ss_many : z_n ss_many) (h_x1 : z_n x1) (h_x2 : z_n x2) (rr : Int) (q_la_height : (Int → Int)) (q_la_drops : (Int → Int)) (q_la_hours : Int) (q_la_restless : Int64) (q_ss_state : (Int → Int)) (q_ss_waiting : (Int → Int)) (q_ss_waits : Int) (q_ss_cells : Int) (q_ss_many : Int) (hm : m_X5_part N gr_cells gr_kind gr_beside gr_besideBits nw_height nw_drops nw_hours la_height la_drops la_hours la_restless ss_state ss_waiting ss_waits ss_cells ss_many x1 x2 = some (rr, q_la_height, q_la_drops, q_la_hours, q_la_restless, q_ss_state, q_ss_waiting, q_ss_waits, q_ss_cells, q_ss_many)) : z_M l G yX5_part cX5_part 4 (some .int) (k2_rm 6 133) [.ref m_o, z_i x1, z_i x2] ([(m_o, z_o 5 [.ref tx_o, .ref gr_o, .ref nw_o, .ref og_o, .ref la_o, .ref ss_o, .ref un_o, .ref kp_o, .ref m_AringCell, .ref m_AringDrops, z_i m_rings]), (m_AringCell, z_a G.2.1 6 m_ringCell), (m_AringDrops, z_a G.2.1 6 m_ringDrops), (gr_o, z_o 0 [z_i gr_rows, z_i gr_columns, z_i gr_cells, .ref gr_Akind, .ref gr_Abeside, .ref gr_AbesideBits]), (gr_Akind, z_a G.2.1 36 gr_kind), (gr_Abeside, z_a G.2.1 144 gr_beside), (gr_AbesideBits, z_l G.2.2.1 36 gr_besideBits), (nw_o, z_o 4 [.ref nw_Aheight, .ref nw_Adrops, z_i nw_hours, .long nw_restless]), (nw_Aheight, z_a G.2.1 36 nw_height), (nw_Adrops, z_a G.2.1 36 nw_drops), (la_o, z_o 4 [.ref la_Aheight, .ref la_Adrops, z_i la_hours, .long la_restless]), (la_Aheight, z_a G.2.1 36 la_height), (la_Adrops, z_a G.2.1 36 la_drops), (ss_o, z_o 2 [.ref ss_Astate, .ref ss_Awaiting, z_i ss_waits, z_i ss_cells, z_i ss_many]), (ss_Astate, z_a G.2.1 36 ss_state), (ss_Awaiting, z_a G.2.1 36 ss_waiting)]) 0 0 (fun v w => v = some (z_i rr) ∧ w = [(m_o, z_o 5 [.ref tx_o, .ref gr_o, .ref nw_o, .ref og_o, .ref la_o, .ref ss_o, .ref un_o, .ref kp_o, .ref m_AringCell, .ref m_AringDrops, z_i m_rings]), (m_AringCell, z_a G.2.1 6 m_ringCell), (m_AringDrops, z_a G.2.1 6 m_ringDrops), (gr_o, z_o 0 [z_i gr_rows, z_i gr_columns, z_i gr_cells, .ref gr_Akind, .ref gr_Abeside, .ref gr_AbesideBits]), (gr_Akind, z_a G.2.1 36 gr_kind), (gr_Abeside, z_a G.2.1 144 gr_beside), (gr_AbesideBits, z_l G.2.2.1 36 gr_besideBits), (nw_o, z_o 4 [.ref nw_Aheight, .ref nw_Adrops, z_i nw_hours, .long nw_restless]), (nw_Aheight, z_a G.2.1 36 nw_height), (nw_Adrops, z_a G.2.1 36 nw_drops), (la_o, z_o 4 [.ref la_Aheight, .ref la_Adrops, z_i q_la_hours, .long q_la_restless]), (la_Aheight, z_a G.2.1 36 q_la_height), (la_Adrops, z_a G.2.1 36 q_la_drops), (ss_o, z_o 2 [.ref ss_Astate, .ref ss_Awaiting, z_i q_ss_waits, z_i q_ss_cells, z_i q_ss_many]), (ss_Astate, z_a G.2.1 36 q_ss_state), (ss_Awaiting, z_a G.2.1 36 q_ss_waiting)] ∧ z_n rr ∧ z_r q_la_height ∧ z_r q_la_drops ∧ z_n q_la_hours ∧ z_r q_ss_state ∧ z_r q_ss_waiting ∧ z_n q_ss_waits ∧ z_n q_ss_cells ∧ z_n q_ss_many ∧ True) := by
  unfold m_X5_part at hm
  refine z_M.intro (by decide +kernel) (Nat.le_of_ble_eq_true rfl) (L := [(0, .ref m_o), (1, z_i x1), (2, z_i x2)]) rfl (fun X C E => ?_)
  refine z_aload_n C dX5_part_0 0 rfl ?_
  refine z_iload_n C dX5_part_1 1 rfl ?_
  refine z_iload_n C dX5_part_2 2 rfl ?_
  obtain ⟨r1, k2, hm⟩ := z_b1s hm
  refine z_callVi C (k_X5_areTwo l G N m_o tx_o gr_o nw_o og_o la_o ss_o un_o kp_o m_AringCell m_AringDrops gr_Akind gr_Abeside gr_AbesideBits m_ringCell m_ringDrops m_rings gr_rows gr_columns gr_cells gr_kind gr_beside gr_besideBits x1 x2 h_m_ringCell h_m_ringDrops h_m_rings h_gr_rows h_gr_columns h_gr_cells h_gr_kind h_gr_beside h_x1 h_x2 r1 k2) zv_X5_areTwo zl_X5_171 dX5_part_3 [0, 1, 2, 3, 4, 5, 6] rfl rfl rfl (ws' := [(m_o, z_o 5 [.ref tx_o, .ref gr_o, .ref nw_o, .ref og_o, .ref la_o, .ref ss_o, .ref un_o, .ref kp_o, .ref m_AringCell, .ref m_AringDrops, z_i m_rings]), (m_AringCell, z_a G.2.1 6 m_ringCell), (m_AringDrops, z_a G.2.1 6 m_ringDrops), (gr_o, z_o 0 [z_i gr_rows, z_i gr_columns, z_i gr_cells, .ref gr_Akind, .ref gr_Abeside, .ref gr_AbesideBits]), (gr_Akind, z_a G.2.1 36 gr_kind), (gr_Abeside, z_a G.2.1 144 gr_beside), (gr_AbesideBits, z_l G.2.2.1 36 gr_besideBits), (nw_o, z_o 4 [.ref nw_Aheight, .ref nw_Adrops, z_i nw_hours, .long nw_restless]), (nw_Aheight, z_a G.2.1 36 nw_height), (nw_Adrops, z_a G.2.1 36 nw_drops), (la_o, z_o 4 [.ref la_Aheight, .ref la_Adrops, z_i la_hours, .long la_restless]), (la_Aheight, z_a G.2.1 36 la_height), (la_Adrops, z_a G.2.1 36 la_drops), (ss_o, z_o 2 [.ref ss_Astate, .ref ss_Awaiting, z_i ss_waits, z_i ss_cells, z_i ss_many]), (ss_Astate, z_a G.2.1 36 ss_state), (ss_Awaiting, z_a G.2.1 36 ss_waiting)]) rfl 0 rfl rfl rfl [] rfl (Nat.le_of_ble_eq_true rfl) ⟨Nat.le_of_ble_eq_true rfl, Nat.le_of_ble_eq_true rfl⟩ ⟨rfl, rfl⟩ ⟨Nat.zero_le _, Nat.zero_le _⟩ (fun hF => ?_)
  obtain ⟨hb_r1, -⟩ := hF
  refine z_if_ne (tgt := 11) C (z_n01 hb_r1) dX5_part_6 (by decide) (fun c3 => ?_) (fun c3 => ?_)
  · have hm := z_pos c3 hm
    refine z_aload_n C dX5_part_11 0 rfl ?_
    refine z_get C zf_X5_39 dX5_part_12 0 rfl rfl ?_
    refine z_aload_n C dX5_part_15 0 rfl ?_
    refine z_get C zf_X5_19 dX5_part_16 0 rfl rfl ?_
    refine z_aload_n C dX5_part_19 0 rfl ?_
    refine z_get C zf_X5_26 dX5_part_20 0 rfl rfl ?_
    obtain ⟨ss_state_4, ss_waiting_5, ss_waits_6, ss_cells_7, ss_many_8, k9, hm⟩ := z_b5s hm
    refine z_callVv C (k_X2_map l G N ss_o ss_Astate ss_Awaiting gr_o gr_Akind gr_Abeside gr_AbesideBits nw_o nw_Aheight nw_Adrops ss_state ss_waiting ss_waits ss_cells ss_many gr_rows gr_columns gr_cells gr_kind gr_beside gr_besideBits nw_height nw_drops nw_hours nw_restless h_ss_state h_ss_waiting h_ss_waits h_ss_cells h_ss_many h_gr_rows h_gr_columns h_gr_cells h_gr_kind h_gr_beside h_nw_height h_nw_drops h_nw_hours ss_state_4 ss_waiting_5 ss_waits_6 ss_cells_7 ss_many_8 k9) zv_X2_map zl_X5_113 dX5_part_23 [13, 14, 15, 3, 4, 5, 6, 7, 8, 9] rfl rfl rfl (ws' := [(m_o, z_o 5 [.ref tx_o, .ref gr_o, .ref nw_o, .ref og_o, .ref la_o, .ref ss_o, .ref un_o, .ref kp_o, .ref m_AringCell, .ref m_AringDrops, z_i m_rings]), (m_AringCell, z_a G.2.1 6 m_ringCell), (m_AringDrops, z_a G.2.1 6 m_ringDrops), (gr_o, z_o 0 [z_i gr_rows, z_i gr_columns, z_i gr_cells, .ref gr_Akind, .ref gr_Abeside, .ref gr_AbesideBits]), (gr_Akind, z_a G.2.1 36 gr_kind), (gr_Abeside, z_a G.2.1 144 gr_beside), (gr_AbesideBits, z_l G.2.2.1 36 gr_besideBits), (nw_o, z_o 4 [.ref nw_Aheight, .ref nw_Adrops, z_i nw_hours, .long nw_restless]), (nw_Aheight, z_a G.2.1 36 nw_height), (nw_Adrops, z_a G.2.1 36 nw_drops), (la_o, z_o 4 [.ref la_Aheight, .ref la_Adrops, z_i la_hours, .long la_restless]), (la_Aheight, z_a G.2.1 36 la_height), (la_Adrops, z_a G.2.1 36 la_drops), (ss_o, z_o 2 [.ref ss_Astate, .ref ss_Awaiting, z_i ss_waits_6, z_i ss_cells_7, z_i ss_many_8]), (ss_Astate, z_a G.2.1 36 ss_state_4), (ss_Awaiting, z_a G.2.1 36 ss_waiting_5)]) rfl 13 rfl rfl rfl [] rfl (Nat.le_of_ble_eq_true rfl) ⟨Nat.le_of_ble_eq_true rfl, Nat.le_of_ble_eq_true rfl⟩ ⟨rfl, rfl⟩ ⟨Nat.zero_le _, Nat.zero_le _⟩ (fun hF => ?_)
    obtain ⟨h_ss_state_4, h_ss_waiting_5, h_ss_waits_6, h_ss_cells_7, h_ss_many_8, -⟩ := hF
    refine z_aload_n C dX5_part_26 0 rfl ?_
    refine z_get C zf_X5_39 dX5_part_27 0 rfl rfl ?_
    refine z_iload_n C dX5_part_30 1 rfl ?_
    refine z_iload_n C dX5_part_31 2 rfl ?_
    obtain ⟨r10, k11, hm⟩ := z_b1s hm
    refine z_callVi C (k_X2_apart l G N ss_o ss_Astate ss_Awaiting ss_state_4 ss_waiting_5 ss_waits_6 ss_cells_7 ss_many_8 x1 x2 h_ss_state_4 h_ss_waiting_5 h_ss_waits_6 h_ss_cells_7 h_ss_many_8 h_x1 h_x2 r10 k11) zv_X2_apart zl_X5_179 dX5_part_32 [13, 14, 15] rfl rfl rfl (ws' := [(m_o, z_o 5 [.ref tx_o, .ref gr_o, .ref nw_o, .ref og_o, .ref la_o, .ref ss_o, .ref un_o, .ref kp_o, .ref m_AringCell, .ref m_AringDrops, z_i m_rings]), (m_AringCell, z_a G.2.1 6 m_ringCell), (m_AringDrops, z_a G.2.1 6 m_ringDrops), (gr_o, z_o 0 [z_i gr_rows, z_i gr_columns, z_i gr_cells, .ref gr_Akind, .ref gr_Abeside, .ref gr_AbesideBits]), (gr_Akind, z_a G.2.1 36 gr_kind), (gr_Abeside, z_a G.2.1 144 gr_beside), (gr_AbesideBits, z_l G.2.2.1 36 gr_besideBits), (nw_o, z_o 4 [.ref nw_Aheight, .ref nw_Adrops, z_i nw_hours, .long nw_restless]), (nw_Aheight, z_a G.2.1 36 nw_height), (nw_Adrops, z_a G.2.1 36 nw_drops), (la_o, z_o 4 [.ref la_Aheight, .ref la_Adrops, z_i la_hours, .long la_restless]), (la_Aheight, z_a G.2.1 36 la_height), (la_Adrops, z_a G.2.1 36 la_drops), (ss_o, z_o 2 [.ref ss_Astate, .ref ss_Awaiting, z_i ss_waits_6, z_i ss_cells_7, z_i ss_many_8]), (ss_Astate, z_a G.2.1 36 ss_state_4), (ss_Awaiting, z_a G.2.1 36 ss_waiting_5)]) rfl 13 rfl rfl rfl [] rfl (Nat.le_of_ble_eq_true rfl) ⟨Nat.le_of_ble_eq_true rfl, Nat.le_of_ble_eq_true rfl⟩ ⟨rfl, rfl⟩ ⟨Nat.zero_le _, Nat.zero_le _⟩ (fun hF => ?_)
    obtain ⟨hb_r10, -⟩ := hF
    refine z_if_eq (tgt := 41) C (z_n01 hb_r10) dX5_part_35 (by decide) (fun c12 => ?_) (fun c12 => ?_)
    · have hm := z_pos c12 hm
      refine z_aload_n C dX5_part_41 0 rfl ?_
      refine z_get C zf_X5_33 dX5_part_42 0 rfl rfl ?_
      refine z_aload_n C dX5_part_45 0 rfl ?_
      refine z_get C zf_X5_26 dX5_part_46 0 rfl rfl ?_
      obtain ⟨la_height_13, la_drops_14, la_hours_15, k16, hm⟩ := z_b3s hm
      refine z_callVv C (k_X4_copyFrom l G N la_o la_Aheight la_Adrops nw_o nw_Aheight nw_Adrops la_height la_drops la_hours la_restless nw_height nw_drops nw_hours nw_restless h_la_height h_la_drops h_la_hours h_nw_height h_nw_drops h_nw_hours la_height_13 la_drops_14 la_hours_15 k16) zv_X4_copyFrom zl_X5_162 dX5_part_49 [10, 11, 12, 7, 8, 9] rfl rfl rfl (ws' := [(m_o, z_o 5 [.ref tx_o, .ref gr_o, .ref nw_o, .ref og_o, .ref la_o, .ref ss_o, .ref un_o, .ref kp_o, .ref m_AringCell, .ref m_AringDrops, z_i m_rings]), (m_AringCell, z_a G.2.1 6 m_ringCell), (m_AringDrops, z_a G.2.1 6 m_ringDrops), (gr_o, z_o 0 [z_i gr_rows, z_i gr_columns, z_i gr_cells, .ref gr_Akind, .ref gr_Abeside, .ref gr_AbesideBits]), (gr_Akind, z_a G.2.1 36 gr_kind), (gr_Abeside, z_a G.2.1 144 gr_beside), (gr_AbesideBits, z_l G.2.2.1 36 gr_besideBits), (nw_o, z_o 4 [.ref nw_Aheight, .ref nw_Adrops, z_i nw_hours, .long nw_restless]), (nw_Aheight, z_a G.2.1 36 nw_height), (nw_Adrops, z_a G.2.1 36 nw_drops), (la_o, z_o 4 [.ref la_Aheight, .ref la_Adrops, z_i la_hours_15, .long la_restless]), (la_Aheight, z_a G.2.1 36 la_height_13), (la_Adrops, z_a G.2.1 36 la_drops_14), (ss_o, z_o 2 [.ref ss_Astate, .ref ss_Awaiting, z_i ss_waits_6, z_i ss_cells_7, z_i ss_many_8]), (ss_Astate, z_a G.2.1 36 ss_state_4), (ss_Awaiting, z_a G.2.1 36 ss_waiting_5)]) rfl 10 rfl rfl rfl [] rfl (Nat.le_of_ble_eq_true rfl) ⟨Nat.le_of_ble_eq_true rfl, Nat.le_of_ble_eq_true rfl⟩ ⟨rfl, rfl⟩ ⟨Nat.zero_le _, Nat.zero_le _⟩ (fun hF => ?_)
      obtain ⟨h_la_height_13, h_la_drops_14, h_la_hours_15, -⟩ := hF
      refine z_iconst C dX5_part_52 ?_
      refine z_istore_n C dX5_part_53 (by decide) (L' := [(3, z_i 1), (0, .ref m_o), (1, z_i x1), (2, z_i x2)]) rfl ?_
      have L1 : ∀ (n1 : Nat) (v3_1 : Int) (la_drops_1 : (Int → Int)) (la_hours_1 : Int) (la_restless_1 : Int64) (ss_state_1 : (Int → Int)) (ss_waiting_1 : (Int → Int)) (ss_waits_1 : Int) (ss_cells_1 : Int) (ss_many_1 : Int), z_n v3_1 → z_r la_drops_1 → z_n la_hours_1 → z_r ss_state_1 → z_r ss_waiting_1 → z_n ss_waits_1 → z_n ss_cells_1 → z_n ss_many_1 → m_X5_part_l1 N la_height_13 gr_cells gr_kind gr_beside gr_besideBits x1 x2 n1 v3_1 la_drops_1 la_hours_1 la_restless_1 ss_state_1 ss_waiting_1 ss_waits_1 ss_cells_1 ss_many_1 = some (rr, q_la_height, q_la_drops, q_la_hours, q_la_restless, q_ss_state, q_ss_waiting, q_ss_waits, q_ss_cells, q_ss_many) → z_J X 0 0 ([(m_o, z_o 5 [.ref tx_o, .ref gr_o, .ref nw_o, .ref og_o, .ref la_o, .ref ss_o, .ref un_o, .ref kp_o, .ref m_AringCell, .ref m_AringDrops, z_i m_rings]), (m_AringCell, z_a G.2.1 6 m_ringCell), (m_AringDrops, z_a G.2.1 6 m_ringDrops), (gr_o, z_o 0 [z_i gr_rows, z_i gr_columns, z_i gr_cells, .ref gr_Akind, .ref gr_Abeside, .ref gr_AbesideBits]), (gr_Akind, z_a G.2.1 36 gr_kind), (gr_Abeside, z_a G.2.1 144 gr_beside), (gr_AbesideBits, z_l G.2.2.1 36 gr_besideBits), (nw_o, z_o 4 [.ref nw_Aheight, .ref nw_Adrops, z_i nw_hours, .long nw_restless]), (nw_Aheight, z_a G.2.1 36 nw_height), (nw_Adrops, z_a G.2.1 36 nw_drops), (la_o, z_o 4 [.ref la_Aheight, .ref la_Adrops, z_i la_hours_1, .long la_restless_1]), (la_Aheight, z_a G.2.1 36 la_height_13), (la_Adrops, z_a G.2.1 36 la_drops_1), (ss_o, z_o 2 [.ref ss_Astate, .ref ss_Awaiting, z_i ss_waits_1, z_i ss_cells_1, z_i ss_many_1]), (ss_Astate, z_a G.2.1 36 ss_state_1), (ss_Awaiting, z_a G.2.1 36 ss_waiting_1)]) [(0, .ref m_o), (1, z_i x1), (2, z_i x2), (3, z_i v3_1)] 54 [] := by
        clear hm
        intro n1
        induction n1 with
        | zero =>
          intro v3_1 la_drops_1 la_hours_1 la_restless_1 ss_state_1 ss_waiting_1 ss_waits_1 ss_cells_1 ss_many_1 h_v3_1 h_la_drops_1 h_la_hours_1 h_ss_state_1 h_ss_waiting_1 h_ss_waits_1 h_ss_cells_1 h_ss_many_1 hm
          rw [m_X5_part_l1] at hm
          cases hm
        | succ n1 ih1 =>
          intro v3_1 la_drops_1 la_hours_1 la_restless_1 ss_state_1 ss_waiting_1 ss_waits_1 ss_cells_1 ss_many_1 h_v3_1 h_la_drops_1 h_la_hours_1 h_ss_state_1 h_ss_waiting_1 h_ss_waits_1 h_ss_cells_1 h_ss_many_1 hm
          rw [m_X5_part_l1] at hm
          refine z_iload_n C dX5_part_54 3 rfl ?_
          refine z_bipush C dX5_part_55 (by decide) ?_
          refine z_icmp_gt (tgt := 106) C h_v3_1 (z_k 60 rfl) dX5_part_57 (by decide) (fun c17 => ?_) (fun c17 => ?_)
          · have hm := z_pos c17 hm
            refine z_bipush C dX5_part_106 (by decide) ?_
            cases hm
            exact z_iret C E dX5_part_108 ⟨rfl, rfl, (z_k (-4) rfl), h_la_height_13, h_la_drops_1, h_la_hours_1, h_ss_state_1, h_ss_waiting_1, h_ss_waits_1, h_ss_cells_1, h_ss_many_1, trivial⟩
          · have hm := z_neg c17 hm
            refine z_aload_n C dX5_part_60 0 rfl ?_
            refine z_get C zf_X5_33 dX5_part_61 0 rfl rfl ?_
            refine z_aload_n C dX5_part_64 0 rfl ?_
            refine z_get C zf_X5_19 dX5_part_65 0 rfl rfl ?_
            obtain ⟨la_drops_18, la_hours_19, la_restless_20, k21, hm⟩ := z_b3s hm
            refine z_callVv C (k_X4_passHour l G N la_o la_Aheight la_Adrops gr_o gr_Akind gr_Abeside gr_AbesideBits la_height_13 la_drops_1 la_hours_1 la_restless_1 gr_rows gr_columns gr_cells gr_kind gr_beside gr_besideBits h_la_height_13 h_la_drops_1 h_la_hours_1 h_gr_rows h_gr_columns h_gr_cells h_gr_kind h_gr_beside la_drops_18 la_hours_19 la_restless_20 k21) zv_X4_passHour zl_X5_168 dX5_part_68 [10, 11, 12, 3, 4, 5, 6] rfl rfl rfl (ws' := [(m_o, z_o 5 [.ref tx_o, .ref gr_o, .ref nw_o, .ref og_o, .ref la_o, .ref ss_o, .ref un_o, .ref kp_o, .ref m_AringCell, .ref m_AringDrops, z_i m_rings]), (m_AringCell, z_a G.2.1 6 m_ringCell), (m_AringDrops, z_a G.2.1 6 m_ringDrops), (gr_o, z_o 0 [z_i gr_rows, z_i gr_columns, z_i gr_cells, .ref gr_Akind, .ref gr_Abeside, .ref gr_AbesideBits]), (gr_Akind, z_a G.2.1 36 gr_kind), (gr_Abeside, z_a G.2.1 144 gr_beside), (gr_AbesideBits, z_l G.2.2.1 36 gr_besideBits), (nw_o, z_o 4 [.ref nw_Aheight, .ref nw_Adrops, z_i nw_hours, .long nw_restless]), (nw_Aheight, z_a G.2.1 36 nw_height), (nw_Adrops, z_a G.2.1 36 nw_drops), (la_o, z_o 4 [.ref la_Aheight, .ref la_Adrops, z_i la_hours_19, .long la_restless_20]), (la_Aheight, z_a G.2.1 36 la_height_13), (la_Adrops, z_a G.2.1 36 la_drops_18), (ss_o, z_o 2 [.ref ss_Astate, .ref ss_Awaiting, z_i ss_waits_1, z_i ss_cells_1, z_i ss_many_1]), (ss_Astate, z_a G.2.1 36 ss_state_1), (ss_Awaiting, z_a G.2.1 36 ss_waiting_1)]) rfl 10 rfl rfl rfl [] rfl (Nat.le_of_ble_eq_true rfl) ⟨Nat.le_of_ble_eq_true rfl, Nat.le_of_ble_eq_true rfl⟩ ⟨rfl, rfl⟩ ⟨Nat.zero_le _, Nat.zero_le _⟩ (fun hF => ?_)
            obtain ⟨h_la_drops_18, h_la_hours_19, -⟩ := hF
            refine z_aload_n C dX5_part_71 0 rfl ?_
            refine z_get C zf_X5_39 dX5_part_72 0 rfl rfl ?_
            refine z_aload_n C dX5_part_75 0 rfl ?_
            refine z_get C zf_X5_19 dX5_part_76 0 rfl rfl ?_
            refine z_aload_n C dX5_part_79 0 rfl ?_
            refine z_get C zf_X5_33 dX5_part_80 0 rfl rfl ?_
            obtain ⟨ss_state_22, ss_waiting_23, ss_waits_24, ss_cells_25, ss_many_26, k27, hm⟩ := z_b5s hm
            refine z_callVv C (k_X2_map l G N ss_o ss_Astate ss_Awaiting gr_o gr_Akind gr_Abeside gr_AbesideBits la_o la_Aheight la_Adrops ss_state_1 ss_waiting_1 ss_waits_1 ss_cells_1 ss_many_1 gr_rows gr_columns gr_cells gr_kind gr_beside gr_besideBits la_height_13 la_drops_18 la_hours_19 la_restless_20 h_ss_state_1 h_ss_waiting_1 h_ss_waits_1 h_ss_cells_1 h_ss_many_1 h_gr_rows h_gr_columns h_gr_cells h_gr_kind h_gr_beside h_la_height_13 h_la_drops_18 h_la_hours_19 ss_state_22 ss_waiting_23 ss_waits_24 ss_cells_25 ss_many_26 k27) zv_X2_map zl_X5_113 dX5_part_83 [13, 14, 15, 3, 4, 5, 6, 10, 11, 12] rfl rfl rfl (ws' := [(m_o, z_o 5 [.ref tx_o, .ref gr_o, .ref nw_o, .ref og_o, .ref la_o, .ref ss_o, .ref un_o, .ref kp_o, .ref m_AringCell, .ref m_AringDrops, z_i m_rings]), (m_AringCell, z_a G.2.1 6 m_ringCell), (m_AringDrops, z_a G.2.1 6 m_ringDrops), (gr_o, z_o 0 [z_i gr_rows, z_i gr_columns, z_i gr_cells, .ref gr_Akind, .ref gr_Abeside, .ref gr_AbesideBits]), (gr_Akind, z_a G.2.1 36 gr_kind), (gr_Abeside, z_a G.2.1 144 gr_beside), (gr_AbesideBits, z_l G.2.2.1 36 gr_besideBits), (nw_o, z_o 4 [.ref nw_Aheight, .ref nw_Adrops, z_i nw_hours, .long nw_restless]), (nw_Aheight, z_a G.2.1 36 nw_height), (nw_Adrops, z_a G.2.1 36 nw_drops), (la_o, z_o 4 [.ref la_Aheight, .ref la_Adrops, z_i la_hours_19, .long la_restless_20]), (la_Aheight, z_a G.2.1 36 la_height_13), (la_Adrops, z_a G.2.1 36 la_drops_18), (ss_o, z_o 2 [.ref ss_Astate, .ref ss_Awaiting, z_i ss_waits_24, z_i ss_cells_25, z_i ss_many_26]), (ss_Astate, z_a G.2.1 36 ss_state_22), (ss_Awaiting, z_a G.2.1 36 ss_waiting_23)]) rfl 13 rfl rfl rfl [] rfl (Nat.le_of_ble_eq_true rfl) ⟨Nat.le_of_ble_eq_true rfl, Nat.le_of_ble_eq_true rfl⟩ ⟨rfl, rfl⟩ ⟨Nat.zero_le _, Nat.zero_le _⟩ (fun hF => ?_)
            obtain ⟨h_ss_state_22, h_ss_waiting_23, h_ss_waits_24, h_ss_cells_25, h_ss_many_26, -⟩ := hF
            refine z_aload_n C dX5_part_86 0 rfl ?_
            refine z_get C zf_X5_39 dX5_part_87 0 rfl rfl ?_
            refine z_iload_n C dX5_part_90 1 rfl ?_
            refine z_iload_n C dX5_part_91 2 rfl ?_
            obtain ⟨r28, k29, hm⟩ := z_b1s hm
            refine z_callVi C (k_X2_apart l G N ss_o ss_Astate ss_Awaiting ss_state_22 ss_waiting_23 ss_waits_24 ss_cells_25 ss_many_26 x1 x2 h_ss_state_22 h_ss_waiting_23 h_ss_waits_24 h_ss_cells_25 h_ss_many_26 h_x1 h_x2 r28 k29) zv_X2_apart zl_X5_179 dX5_part_92 [13, 14, 15] rfl rfl rfl (ws' := [(m_o, z_o 5 [.ref tx_o, .ref gr_o, .ref nw_o, .ref og_o, .ref la_o, .ref ss_o, .ref un_o, .ref kp_o, .ref m_AringCell, .ref m_AringDrops, z_i m_rings]), (m_AringCell, z_a G.2.1 6 m_ringCell), (m_AringDrops, z_a G.2.1 6 m_ringDrops), (gr_o, z_o 0 [z_i gr_rows, z_i gr_columns, z_i gr_cells, .ref gr_Akind, .ref gr_Abeside, .ref gr_AbesideBits]), (gr_Akind, z_a G.2.1 36 gr_kind), (gr_Abeside, z_a G.2.1 144 gr_beside), (gr_AbesideBits, z_l G.2.2.1 36 gr_besideBits), (nw_o, z_o 4 [.ref nw_Aheight, .ref nw_Adrops, z_i nw_hours, .long nw_restless]), (nw_Aheight, z_a G.2.1 36 nw_height), (nw_Adrops, z_a G.2.1 36 nw_drops), (la_o, z_o 4 [.ref la_Aheight, .ref la_Adrops, z_i la_hours_19, .long la_restless_20]), (la_Aheight, z_a G.2.1 36 la_height_13), (la_Adrops, z_a G.2.1 36 la_drops_18), (ss_o, z_o 2 [.ref ss_Astate, .ref ss_Awaiting, z_i ss_waits_24, z_i ss_cells_25, z_i ss_many_26]), (ss_Astate, z_a G.2.1 36 ss_state_22), (ss_Awaiting, z_a G.2.1 36 ss_waiting_23)]) rfl 13 rfl rfl rfl [] rfl (Nat.le_of_ble_eq_true rfl) ⟨Nat.le_of_ble_eq_true rfl, Nat.le_of_ble_eq_true rfl⟩ ⟨rfl, rfl⟩ ⟨Nat.zero_le _, Nat.zero_le _⟩ (fun hF => ?_)
            obtain ⟨hb_r28, -⟩ := hF
            refine z_if_eq (tgt := 100) C (z_n01 hb_r28) dX5_part_95 (by decide) (fun c30 => ?_) (fun c30 => ?_)
            · have hm := z_pos c30 hm
              obtain ⟨c31, hm⟩ := z_chk_some hm
              refine z_iinc C dX5_part_100 3 rfl (by decide) (L' := [(3, z_i (v3_1 + 1)), (0, .ref m_o), (1, z_i x1), (2, z_i x2)]) rfl ?_
              refine z_goto (tgt := 54) C dX5_part_103 (by decide) ?_
              refine z_sub (L' := [(0, .ref m_o), (1, z_i x1), (2, z_i x2), (3, z_i (v3_1 + 1))]) [1, 2, 3, 0] rfl ?_
              exact ih1 (v3_1 + 1) la_drops_18 la_hours_19 la_restless_20 ss_state_22 ss_waiting_23 ss_waits_24 ss_cells_25 ss_many_26 c31 h_la_drops_18 h_la_hours_19 h_ss_state_22 h_ss_waiting_23 h_ss_waits_24 h_ss_cells_25 h_ss_many_26 hm
            · have hm := z_neg c30 hm
              refine z_iload_n C dX5_part_98 3 rfl ?_
              cases hm
              exact z_iret C E dX5_part_99 ⟨rfl, rfl, h_v3_1, h_la_height_13, h_la_drops_18, h_la_hours_19, h_ss_state_22, h_ss_waiting_23, h_ss_waits_24, h_ss_cells_25, h_ss_many_26, trivial⟩
      refine z_sub (L' := [(0, .ref m_o), (1, z_i x1), (2, z_i x2), (3, z_i 1)]) [1, 2, 3, 0] rfl ?_
      exact L1 N 1 la_drops_14 la_hours_15 la_restless ss_state_4 ss_waiting_5 ss_waits_6 ss_cells_7 ss_many_8 (z_k 1 rfl) h_la_drops_14 h_la_hours_15 h_ss_state_4 h_ss_waiting_5 h_ss_waits_6 h_ss_cells_7 h_ss_many_8 hm
    · have hm := z_neg c12 hm
      refine z_bipush C dX5_part_38 (by decide) ?_
      cases hm
      exact z_iret C E dX5_part_40 ⟨rfl, rfl, (z_k (-2) rfl), h_la_height, h_la_drops, h_la_hours, h_ss_state_4, h_ss_waiting_5, h_ss_waits_6, h_ss_cells_7, h_ss_many_8, trivial⟩
  · have hm := z_neg c3 hm
    refine z_iconst C dX5_part_9 ?_
    cases hm
    exact z_iret C E dX5_part_10 ⟨rfl, rfl, (z_k (-1) rfl), h_la_height, h_la_drops, h_la_hours, h_ss_state, h_ss_waiting, h_ss_waits, h_ss_cells, h_ss_many, trivial⟩
set_option maxRecDepth 100000 in
theorem k_X0_withBeside (l : Launch) (G : z_G) (N : Nat) (t_o t_Akind t_Abeside t_AbesideBits : Nat) (t_rows : Int) (t_columns : Int) (t_cells : Int) (t_kind : (Int → Int)) (t_beside : (Int → Int)) (t_besideBits : (Int → Int64)) (x1 : Int64) (h_t_rows : z_n t_rows) (h_t_columns : z_n t_columns) (h_t_cells : z_n t_cells) (h_t_kind : z_r t_kind) (h_t_beside : z_r t_beside) (rr : Int64) (hm : m_X0_withBeside N t_cells t_besideBits x1 = some (rr)) : z_M l G yX0_withBeside cX0_withBeside 6 (some .long) (k2_rm 0 0) [.ref t_o, .long x1] ([(t_o, z_o 0 [z_i t_rows, z_i t_columns, z_i t_cells, .ref t_Akind, .ref t_Abeside, .ref t_AbesideBits]), (t_Akind, z_a G.2.1 36 t_kind), (t_Abeside, z_a G.2.1 144 t_beside), (t_AbesideBits, z_l G.2.2.1 36 t_besideBits)]) 0 0 (fun v w => v = some (.long rr) ∧ w = [(t_o, z_o 0 [z_i t_rows, z_i t_columns, z_i t_cells, .ref t_Akind, .ref t_Abeside, .ref t_AbesideBits]), (t_Akind, z_a G.2.1 36 t_kind), (t_Abeside, z_a G.2.1 144 t_beside), (t_AbesideBits, z_l G.2.2.1 36 t_besideBits)] ∧ True) := by
  unfold m_X0_withBeside at hm
  refine z_M.intro (by decide +kernel) (Nat.le_of_ble_eq_true rfl) (L := [(0, .ref t_o), (1, .long x1)]) rfl (fun X C E => ?_)
  refine z_lload_n C dX0_withBeside_0 1 rfl ?_
  refine z_lstore_n C dX0_withBeside_1 (by decide) (L' := [(3, .long x1), (0, .ref t_o), (1, .long x1)]) rfl ?_
  refine z_iconst C dX0_withBeside_2 ?_
  refine z_istore C dX0_withBeside_3 (by decide) (L' := [(5, z_i 0), (3, .long x1), (0, .ref t_o), (1, .long x1)]) rfl ?_
  obtain ⟨o3_1, hl, hm⟩ := z_b1s hm
  have JX1 : z_J X 0 0 ([(t_o, z_o 0 [z_i t_rows, z_i t_columns, z_i t_cells, .ref t_Akind, .ref t_Abeside, .ref t_AbesideBits]), (t_Akind, z_a G.2.1 36 t_kind), (t_Abeside, z_a G.2.1 144 t_beside), (t_AbesideBits, z_l G.2.2.1 36 t_besideBits)]) [(3, .long o3_1)] 48 [] := by
    clear hl
    refine z_lload_n C dX0_withBeside_48 0 rfl ?_
    cases hm
    exact z_lret C E dX0_withBeside_49 ⟨rfl, rfl, trivial⟩
  clear hm
  have L1 : ∀ (n1 : Nat) (v3_1 : Int64) (v5_1 : Int), z_n v5_1 → m_X0_withBeside_l1 N t_cells x1 t_besideBits n1 v3_1 v5_1 = some (o3_1) → z_J X 0 0 ([(t_o, z_o 0 [z_i t_rows, z_i t_columns, z_i t_cells, .ref t_Akind, .ref t_Abeside, .ref t_AbesideBits]), (t_Akind, z_a G.2.1 36 t_kind), (t_Abeside, z_a G.2.1 144 t_beside), (t_AbesideBits, z_l G.2.2.1 36 t_besideBits)]) [(0, .ref t_o), (1, .long x1), (3, .long v3_1), (5, z_i v5_1)] 5 [] := by
    clear hl
    intro n1
    induction n1 with
    | zero =>
      intro v3_1 v5_1 h_v5_1 hm
      rw [m_X0_withBeside_l1] at hm
      cases hm
    | succ n1 ih1 =>
      intro v3_1 v5_1 h_v5_1 hm
      rw [m_X0_withBeside_l1] at hm
      refine z_iload C dX0_withBeside_5 3 rfl ?_
      refine z_aload_n C dX0_withBeside_7 0 rfl ?_
      refine z_get C zf_X0_18 dX0_withBeside_8 0 rfl rfl ?_
      refine z_icmp_ge (tgt := 48) C h_v5_1 h_t_cells dX0_withBeside_11 (by decide) (fun c1 => ?_) (fun c1 => ?_)
      · have hm := z_pos c1 hm
        refine z_sub (L' := [(3, .long v3_1)]) [2] rfl ?_
        cases hm
        exact JX1
      · have hm := z_neg c1 hm
        refine z_iload C dX0_withBeside_14 3 rfl ?_
        refine z_bipush C dX0_withBeside_16 (by decide) ?_
        refine z_icmp_ge (tgt := 48) C h_v5_1 (z_k 36 rfl) dX0_withBeside_18 (by decide) (fun c2 => ?_) (fun c2 => ?_)
        · have hm := z_pos c2 hm
          refine z_sub (L' := [(3, .long v3_1)]) [2] rfl ?_
          cases hm
          exact JX1
        · have hm := z_neg c2 hm
          refine z_lload_n C dX0_withBeside_21 1 rfl ?_
          refine z_iload C dX0_withBeside_22 3 rfl ?_
          refine z_lshrR C dX0_withBeside_24 ?_
          refine z_lconst (v := (1 : Int64)) C dX0_withBeside_25 (by decide) ?_
          refine z_land C dX0_withBeside_26 ?_
          refine z_lconst (v := (1 : Int64)) C dX0_withBeside_27 (by decide) ?_
          refine z_lcmpR C dX0_withBeside_28 ?_
          refine z_if_ne (tgt := 42) C (z_n_lcmp _ _) dX0_withBeside_29 (by decide) (fun c3 => ?_) (fun c3 => ?_)
          · have hm := z_pos c3 hm
            obtain ⟨c4, hm⟩ := z_chk_some hm
            refine z_iinc C dX0_withBeside_42 3 rfl (by decide) (L' := [(5, z_i (v5_1 + 1)), (0, .ref t_o), (1, .long x1), (3, .long v3_1)]) rfl ?_
            refine z_goto (tgt := 5) C dX0_withBeside_45 (by decide) ?_
            refine z_sub (L' := [(0, .ref t_o), (1, .long x1), (3, .long v3_1), (5, z_i (v5_1 + 1))]) [1, 2, 3, 0] rfl ?_
            exact ih1 v3_1 (v5_1 + 1) c4 hm
          · have hm := z_neg c3 hm
            refine z_lload_n C dX0_withBeside_32 2 rfl ?_
            refine z_aload_n C dX0_withBeside_33 0 rfl ?_
            refine z_get C zf_X0_28 dX0_withBeside_34 0 rfl rfl ?_
            refine z_iload C dX0_withBeside_37 3 rfl ?_
            obtain ⟨c5, hm⟩ := z_chk_some hm
            refine z_lald C dX0_withBeside_39 3 rfl c5 h_v5_1 ?_
            refine z_lor C dX0_withBeside_40 ?_
            refine z_lstore_n C dX0_withBeside_41 (by decide) (L' := [(3, .long (v3_1 ||| (t_besideBits v5_1))), (0, .ref t_o), (1, .long x1), (5, z_i v5_1)]) rfl ?_
            obtain ⟨c6, hm⟩ := z_chk_some hm
            refine z_iinc C dX0_withBeside_42 3 rfl (by decide) (L' := [(5, z_i (v5_1 + 1)), (3, .long (v3_1 ||| (t_besideBits v5_1))), (0, .ref t_o), (1, .long x1)]) rfl ?_
            refine z_goto (tgt := 5) C dX0_withBeside_45 (by decide) ?_
            refine z_sub (L' := [(0, .ref t_o), (1, .long x1), (3, .long (v3_1 ||| (t_besideBits v5_1))), (5, z_i (v5_1 + 1))]) [2, 3, 1, 0] rfl ?_
            exact ih1 (v3_1 ||| (t_besideBits v5_1)) (v5_1 + 1) c6 hm
  refine z_sub (L' := [(0, .ref t_o), (1, .long x1), (3, .long x1), (5, z_i 0)]) [2, 3, 1, 0] rfl ?_
  exact L1 N x1 0 (z_k 0 rfl) hl
set_option maxRecDepth 100000 in
theorem k_X5_way (l : Launch) (G : z_G) (N : Nat) (m_o tx_o gr_o nw_o og_o la_o ss_o un_o kp_o m_AringCell m_AringDrops gr_Akind gr_Abeside gr_AbesideBits nw_Aheight nw_Adrops la_Aheight la_Adrops : Nat) (m_ringCell : (Int → Int)) (m_ringDrops : (Int → Int)) (m_rings : Int) (gr_rows : Int) (gr_columns : Int) (gr_cells : Int) (gr_kind : (Int → Int)) (gr_beside : (Int → Int)) (gr_besideBits : (Int → Int64)) (nw_height : (Int → Int)) (nw_drops : (Int → Int)) (nw_hours : Int) (nw_restless : Int64) (la_height : (Int → Int)) (la_drops : (Int → Int)) (la_hours : Int) (la_restless : Int64) (x1 : Int) (x2 : Int) (h_m_ringCell : z_r m_ringCell) (h_m_ringDrops : z_r m_ringDrops) (h_m_rings : z_n m_rings) (h_gr_rows : z_n gr_rows) (h_gr_columns : z_n gr_columns) (h_gr_cells : z_n gr_cells) (h_gr_kind : z_r gr_kind) (h_gr_beside : z_r gr_beside) (h_nw_height : z_r nw_height) (h_nw_drops : z_r nw_drops) (h_nw_hours : z_n nw_hours) (h_la_height : z_r la_height) (h_la_drops : z_r la_drops) (h_la_hours : z_n la_hours) (h_x1 : z_n x1) (h_x2 : z_n x2) (rr : Int) (q_la_height : (Int → Int)) (q_la_drops : (Int → Int)) (q_la_hours : Int) (q_la_restless : Int64) (hm : m_X5_way N gr_cells gr_kind gr_beside gr_besideBits nw_height nw_drops nw_hours la_height la_drops la_hours la_restless x1 x2 = some (rr, q_la_height, q_la_drops, q_la_hours, q_la_restless)) : z_M l G yX5_way cX5_way 6 (some .int) (k2_rm 6 133) [.ref m_o, z_i x1, z_i x2] ([(m_o, z_o 5 [.ref tx_o, .ref gr_o, .ref nw_o, .ref og_o, .ref la_o, .ref ss_o, .ref un_o, .ref kp_o, .ref m_AringCell, .ref m_AringDrops, z_i m_rings]), (m_AringCell, z_a G.2.1 6 m_ringCell), (m_AringDrops, z_a G.2.1 6 m_ringDrops), (gr_o, z_o 0 [z_i gr_rows, z_i gr_columns, z_i gr_cells, .ref gr_Akind, .ref gr_Abeside, .ref gr_AbesideBits]), (gr_Akind, z_a G.2.1 36 gr_kind), (gr_Abeside, z_a G.2.1 144 gr_beside), (gr_AbesideBits, z_l G.2.2.1 36 gr_besideBits), (nw_o, z_o 4 [.ref nw_Aheight, .ref nw_Adrops, z_i nw_hours, .long nw_restless]), (nw_Aheight, z_a G.2.1 36 nw_height), (nw_Adrops, z_a G.2.1 36 nw_drops), (la_o, z_o 4 [.ref la_Aheight, .ref la_Adrops, z_i la_hours, .long la_restless]), (la_Aheight, z_a G.2.1 36 la_height), (la_Adrops, z_a G.2.1 36 la_drops)]) 0 0 (fun v w => v = some (z_i rr) ∧ w = [(m_o, z_o 5 [.ref tx_o, .ref gr_o, .ref nw_o, .ref og_o, .ref la_o, .ref ss_o, .ref un_o, .ref kp_o, .ref m_AringCell, .ref m_AringDrops, z_i m_rings]), (m_AringCell, z_a G.2.1 6 m_ringCell), (m_AringDrops, z_a G.2.1 6 m_ringDrops), (gr_o, z_o 0 [z_i gr_rows, z_i gr_columns, z_i gr_cells, .ref gr_Akind, .ref gr_Abeside, .ref gr_AbesideBits]), (gr_Akind, z_a G.2.1 36 gr_kind), (gr_Abeside, z_a G.2.1 144 gr_beside), (gr_AbesideBits, z_l G.2.2.1 36 gr_besideBits), (nw_o, z_o 4 [.ref nw_Aheight, .ref nw_Adrops, z_i nw_hours, .long nw_restless]), (nw_Aheight, z_a G.2.1 36 nw_height), (nw_Adrops, z_a G.2.1 36 nw_drops), (la_o, z_o 4 [.ref la_Aheight, .ref la_Adrops, z_i q_la_hours, .long q_la_restless]), (la_Aheight, z_a G.2.1 36 q_la_height), (la_Adrops, z_a G.2.1 36 q_la_drops)] ∧ z_n rr ∧ z_r q_la_height ∧ z_r q_la_drops ∧ z_n q_la_hours ∧ True) := by
  unfold m_X5_way at hm
  refine z_M.intro (by decide +kernel) (Nat.le_of_ble_eq_true rfl) (L := [(0, .ref m_o), (1, z_i x1), (2, z_i x2)]) rfl (fun X C E => ?_)
  refine z_aload_n C dX5_way_0 0 rfl ?_
  refine z_get C zf_X5_19 dX5_way_1 0 rfl rfl ?_
  refine z_iload_n C dX5_way_4 1 rfl ?_
  obtain ⟨r1, k2, hm⟩ := z_b1s hm
  refine z_callVi C (k_X0_holds l G N gr_o gr_Akind gr_Abeside gr_AbesideBits gr_rows gr_columns gr_cells gr_kind gr_beside gr_besideBits x1 h_gr_rows h_gr_columns h_gr_cells h_gr_kind h_gr_beside h_x1 r1 k2) zv_X0_holds zl_X5_96 dX5_way_5 [3, 4, 5, 6] rfl rfl rfl (ws' := [(m_o, z_o 5 [.ref tx_o, .ref gr_o, .ref nw_o, .ref og_o, .ref la_o, .ref ss_o, .ref un_o, .ref kp_o, .ref m_AringCell, .ref m_AringDrops, z_i m_rings]), (m_AringCell, z_a G.2.1 6 m_ringCell), (m_AringDrops, z_a G.2.1 6 m_ringDrops), (gr_o, z_o 0 [z_i gr_rows, z_i gr_columns, z_i gr_cells, .ref gr_Akind, .ref gr_Abeside, .ref gr_AbesideBits]), (gr_Akind, z_a G.2.1 36 gr_kind), (gr_Abeside, z_a G.2.1 144 gr_beside), (gr_AbesideBits, z_l G.2.2.1 36 gr_besideBits), (nw_o, z_o 4 [.ref nw_Aheight, .ref nw_Adrops, z_i nw_hours, .long nw_restless]), (nw_Aheight, z_a G.2.1 36 nw_height), (nw_Adrops, z_a G.2.1 36 nw_drops), (la_o, z_o 4 [.ref la_Aheight, .ref la_Adrops, z_i la_hours, .long la_restless]), (la_Aheight, z_a G.2.1 36 la_height), (la_Adrops, z_a G.2.1 36 la_drops)]) rfl 3 rfl rfl rfl [] rfl (Nat.le_of_ble_eq_true rfl) ⟨Nat.le_of_ble_eq_true rfl, Nat.le_of_ble_eq_true rfl⟩ ⟨rfl, rfl⟩ ⟨Nat.zero_le _, Nat.zero_le _⟩ (fun hF => ?_)
  obtain ⟨hb_r1, -⟩ := hF
  refine z_if_eq (tgt := 22) C (z_n01 hb_r1) dX5_way_8 (by decide) (fun c3 => ?_) (fun c3 => ?_)
  · have hm := z_pos c3 hm
    refine z_iconst C dX5_way_22 ?_
    cases hm
    exact z_iret C E dX5_way_23 ⟨rfl, rfl, (z_k (-1) rfl), h_la_height, h_la_drops, h_la_hours, trivial⟩
  · have hm := z_neg c3 hm
    refine z_aload_n C dX5_way_11 0 rfl ?_
    refine z_get C zf_X5_19 dX5_way_12 0 rfl rfl ?_
    refine z_iload_n C dX5_way_15 2 rfl ?_
    obtain ⟨r4, k5, hm⟩ := z_b1s hm
    refine z_callVi C (k_X0_holds l G N gr_o gr_Akind gr_Abeside gr_AbesideBits gr_rows gr_columns gr_cells gr_kind gr_beside gr_besideBits x2 h_gr_rows h_gr_columns h_gr_cells h_gr_kind h_gr_beside h_x2 r4 k5) zv_X0_holds zl_X5_96 dX5_way_16 [3, 4, 5, 6] rfl rfl rfl (ws' := [(m_o, z_o 5 [.ref tx_o, .ref gr_o, .ref nw_o, .ref og_o, .ref la_o, .ref ss_o, .ref un_o, .ref kp_o, .ref m_AringCell, .ref m_AringDrops, z_i m_rings]), (m_AringCell, z_a G.2.1 6 m_ringCell), (m_AringDrops, z_a G.2.1 6 m_ringDrops), (gr_o, z_o 0 [z_i gr_rows, z_i gr_columns, z_i gr_cells, .ref gr_Akind, .ref gr_Abeside, .ref gr_AbesideBits]), (gr_Akind, z_a G.2.1 36 gr_kind), (gr_Abeside, z_a G.2.1 144 gr_beside), (gr_AbesideBits, z_l G.2.2.1 36 gr_besideBits), (nw_o, z_o 4 [.ref nw_Aheight, .ref nw_Adrops, z_i nw_hours, .long nw_restless]), (nw_Aheight, z_a G.2.1 36 nw_height), (nw_Adrops, z_a G.2.1 36 nw_drops), (la_o, z_o 4 [.ref la_Aheight, .ref la_Adrops, z_i la_hours, .long la_restless]), (la_Aheight, z_a G.2.1 36 la_height), (la_Adrops, z_a G.2.1 36 la_drops)]) rfl 3 rfl rfl rfl [] rfl (Nat.le_of_ble_eq_true rfl) ⟨Nat.le_of_ble_eq_true rfl, Nat.le_of_ble_eq_true rfl⟩ ⟨rfl, rfl⟩ ⟨Nat.zero_le _, Nat.zero_le _⟩ (fun hF => ?_)
    obtain ⟨hb_r4, -⟩ := hF
    refine z_if_ne (tgt := 24) C (z_n01 hb_r4) dX5_way_19 (by decide) (fun c6 => ?_) (fun c6 => ?_)
    · have hm := z_pos c6 hm
      refine z_aload_n C dX5_way_24 0 rfl ?_
      refine z_get C zf_X5_26 dX5_way_25 0 rfl rfl ?_
      refine z_get C zf_X5_110 dX5_way_28 7 rfl rfl ?_
      refine z_iload_n C dX5_way_31 1 rfl ?_
      obtain ⟨c7, hm⟩ := z_chk_some hm
      refine z_iald C dX5_way_32 9 rfl c7 h_x1 ?_
      refine z_if_ne (tgt := 39) C (h_nw_drops _) dX5_way_33 (by decide) (fun c8 => ?_) (fun c8 => ?_)
      · have hm := z_pos c8 hm
        refine z_aload_n C dX5_way_39 0 rfl ?_
        refine z_get C zf_X5_33 dX5_way_40 0 rfl rfl ?_
        refine z_aload_n C dX5_way_43 0 rfl ?_
        refine z_get C zf_X5_26 dX5_way_44 0 rfl rfl ?_
        obtain ⟨la_height_9, la_drops_10, la_hours_11, k12, hm⟩ := z_b3s hm
        refine z_callVv C (k_X4_copyFrom l G N la_o la_Aheight la_Adrops nw_o nw_Aheight nw_Adrops la_height la_drops la_hours la_restless nw_height nw_drops nw_hours nw_restless h_la_height h_la_drops h_la_hours h_nw_height h_nw_drops h_nw_hours la_height_9 la_drops_10 la_hours_11 k12) zv_X4_copyFrom zl_X5_162 dX5_way_47 [10, 11, 12, 7, 8, 9] rfl rfl rfl (ws' := [(m_o, z_o 5 [.ref tx_o, .ref gr_o, .ref nw_o, .ref og_o, .ref la_o, .ref ss_o, .ref un_o, .ref kp_o, .ref m_AringCell, .ref m_AringDrops, z_i m_rings]), (m_AringCell, z_a G.2.1 6 m_ringCell), (m_AringDrops, z_a G.2.1 6 m_ringDrops), (gr_o, z_o 0 [z_i gr_rows, z_i gr_columns, z_i gr_cells, .ref gr_Akind, .ref gr_Abeside, .ref gr_AbesideBits]), (gr_Akind, z_a G.2.1 36 gr_kind), (gr_Abeside, z_a G.2.1 144 gr_beside), (gr_AbesideBits, z_l G.2.2.1 36 gr_besideBits), (nw_o, z_o 4 [.ref nw_Aheight, .ref nw_Adrops, z_i nw_hours, .long nw_restless]), (nw_Aheight, z_a G.2.1 36 nw_height), (nw_Adrops, z_a G.2.1 36 nw_drops), (la_o, z_o 4 [.ref la_Aheight, .ref la_Adrops, z_i la_hours_11, .long la_restless]), (la_Aheight, z_a G.2.1 36 la_height_9), (la_Adrops, z_a G.2.1 36 la_drops_10)]) rfl 10 rfl rfl rfl [] rfl (Nat.le_of_ble_eq_true rfl) ⟨Nat.le_of_ble_eq_true rfl, Nat.le_of_ble_eq_true rfl⟩ ⟨rfl, rfl⟩ ⟨Nat.zero_le _, Nat.zero_le _⟩ (fun hF => ?_)
        obtain ⟨h_la_height_9, h_la_drops_10, h_la_hours_11, -⟩ := hF
        refine z_lconst (v := (1 : Int64)) C dX5_way_50 (by decide) ?_
        refine z_iload_n C dX5_way_51 1 rfl ?_
        refine z_lshlR C dX5_way_52 ?_
        refine z_lstore_n C dX5_way_53 (by decide) (L' := [(3, .long (z_lshl (1 : Int64) x1)), (0, .ref m_o), (1, z_i x1), (2, z_i x2)]) rfl ?_
        refine z_iconst C dX5_way_54 ?_
        refine z_istore C dX5_way_55 (by decide) (L' := [(5, z_i 0), (3, .long (z_lshl (1 : Int64) x1)), (0, .ref m_o), (1, z_i x1), (2, z_i x2)]) rfl ?_
        have L1 : ∀ (n1 : Nat) (v3_1 : Int64) (v5_1 : Int) (la_drops_1 : (Int → Int)) (la_hours_1 : Int) (la_restless_1 : Int64), z_n v5_1 → z_r la_drops_1 → z_n la_hours_1 → m_X5_way_l1 N la_height_9 x2 gr_cells gr_besideBits gr_kind gr_beside n1 v3_1 v5_1 la_drops_1 la_hours_1 la_restless_1 = some (rr, q_la_height, q_la_drops, q_la_hours, q_la_restless) → z_J X 0 0 ([(m_o, z_o 5 [.ref tx_o, .ref gr_o, .ref nw_o, .ref og_o, .ref la_o, .ref ss_o, .ref un_o, .ref kp_o, .ref m_AringCell, .ref m_AringDrops, z_i m_rings]), (m_AringCell, z_a G.2.1 6 m_ringCell), (m_AringDrops, z_a G.2.1 6 m_ringDrops), (gr_o, z_o 0 [z_i gr_rows, z_i gr_columns, z_i gr_cells, .ref gr_Akind, .ref gr_Abeside, .ref gr_AbesideBits]), (gr_Akind, z_a G.2.1 36 gr_kind), (gr_Abeside, z_a G.2.1 144 gr_beside), (gr_AbesideBits, z_l G.2.2.1 36 gr_besideBits), (nw_o, z_o 4 [.ref nw_Aheight, .ref nw_Adrops, z_i nw_hours, .long nw_restless]), (nw_Aheight, z_a G.2.1 36 nw_height), (nw_Adrops, z_a G.2.1 36 nw_drops), (la_o, z_o 4 [.ref la_Aheight, .ref la_Adrops, z_i la_hours_1, .long la_restless_1]), (la_Aheight, z_a G.2.1 36 la_height_9), (la_Adrops, z_a G.2.1 36 la_drops_1)]) [(0, .ref m_o), (2, z_i x2), (3, .long v3_1), (5, z_i v5_1)] 57 [] := by
          clear hm
          intro n1
          induction n1 with
          | zero =>
            intro v3_1 v5_1 la_drops_1 la_hours_1 la_restless_1 h_v5_1 h_la_drops_1 h_la_hours_1 hm
            rw [m_X5_way_l1] at hm
            cases hm
          | succ n1 ih1 =>
            intro v3_1 v5_1 la_drops_1 la_hours_1 la_restless_1 h_v5_1 h_la_drops_1 h_la_hours_1 hm
            rw [m_X5_way_l1] at hm
            refine z_iload C dX5_way_57 3 rfl ?_
            refine z_bipush C dX5_way_59 (by decide) ?_
            refine z_icmp_gt (tgt := 129) C h_v5_1 (z_k 40 rfl) dX5_way_61 (by decide) (fun c13 => ?_) (fun c13 => ?_)
            · have hm := z_pos c13 hm
              refine z_bipush C dX5_way_129 (by decide) ?_
              cases hm
              exact z_iret C E dX5_way_131 ⟨rfl, rfl, (z_k (-4) rfl), h_la_height_9, h_la_drops_1, h_la_hours_1, trivial⟩
            · have hm := z_neg c13 hm
              refine z_lload_n C dX5_way_64 2 rfl ?_
              refine z_iload_n C dX5_way_65 1 rfl ?_
              refine z_lshrR C dX5_way_66 ?_
              refine z_lconst (v := (1 : Int64)) C dX5_way_67 (by decide) ?_
              refine z_land C dX5_way_68 ?_
              refine z_lconst (v := (1 : Int64)) C dX5_way_69 (by decide) ?_
              refine z_lcmpR C dX5_way_70 ?_
              refine z_if_ne (tgt := 77) C (z_n_lcmp _ _) dX5_way_71 (by decide) (fun c14 => ?_) (fun c14 => ?_)
              · have hm := z_pos c14 hm
                refine z_aload_n C dX5_way_77 0 rfl ?_
                refine z_get C zf_X5_19 dX5_way_78 0 rfl rfl ?_
                refine z_lload_n C dX5_way_81 2 rfl ?_
                obtain ⟨r15, k16, hm⟩ := z_b1s hm
                refine z_callVi C (k_X0_withBeside l G N gr_o gr_Akind gr_Abeside gr_AbesideBits gr_rows gr_columns gr_cells gr_kind gr_beside gr_besideBits v3_1 h_gr_rows h_gr_columns h_gr_cells h_gr_kind h_gr_beside r15 k16) zv_X0_withBeside zl_X5_182 dX5_way_82 [3, 4, 5, 6] rfl rfl rfl (ws' := [(m_o, z_o 5 [.ref tx_o, .ref gr_o, .ref nw_o, .ref og_o, .ref la_o, .ref ss_o, .ref un_o, .ref kp_o, .ref m_AringCell, .ref m_AringDrops, z_i m_rings]), (m_AringCell, z_a G.2.1 6 m_ringCell), (m_AringDrops, z_a G.2.1 6 m_ringDrops), (gr_o, z_o 0 [z_i gr_rows, z_i gr_columns, z_i gr_cells, .ref gr_Akind, .ref gr_Abeside, .ref gr_AbesideBits]), (gr_Akind, z_a G.2.1 36 gr_kind), (gr_Abeside, z_a G.2.1 144 gr_beside), (gr_AbesideBits, z_l G.2.2.1 36 gr_besideBits), (nw_o, z_o 4 [.ref nw_Aheight, .ref nw_Adrops, z_i nw_hours, .long nw_restless]), (nw_Aheight, z_a G.2.1 36 nw_height), (nw_Adrops, z_a G.2.1 36 nw_drops), (la_o, z_o 4 [.ref la_Aheight, .ref la_Adrops, z_i la_hours_1, .long la_restless_1]), (la_Aheight, z_a G.2.1 36 la_height_9), (la_Adrops, z_a G.2.1 36 la_drops_1)]) rfl 3 rfl rfl rfl [] rfl (Nat.le_of_ble_eq_true rfl) ⟨Nat.le_of_ble_eq_true rfl, Nat.le_of_ble_eq_true rfl⟩ ⟨rfl, rfl⟩ ⟨Nat.zero_le _, Nat.zero_le _⟩ (fun hF => ?_)
                refine z_aload_n C dX5_way_85 0 rfl ?_
                refine z_get C zf_X5_33 dX5_way_86 0 rfl rfl ?_
                refine z_aload_n C dX5_way_89 0 rfl ?_
                refine z_get C zf_X5_19 dX5_way_90 0 rfl rfl ?_
                obtain ⟨r17, k18, hm⟩ := z_b1s hm
                refine z_callVi C (k_X4_wetBits l G N la_o la_Aheight la_Adrops gr_o gr_Akind gr_Abeside gr_AbesideBits la_height_9 la_drops_1 la_hours_1 la_restless_1 gr_rows gr_columns gr_cells gr_kind gr_beside gr_besideBits h_la_height_9 h_la_drops_1 h_la_hours_1 h_gr_rows h_gr_columns h_gr_cells h_gr_kind h_gr_beside r17 k18) zv_X4_wetBits zl_X5_186 dX5_way_93 [10, 11, 12, 3, 4, 5, 6] rfl rfl rfl (ws' := [(m_o, z_o 5 [.ref tx_o, .ref gr_o, .ref nw_o, .ref og_o, .ref la_o, .ref ss_o, .ref un_o, .ref kp_o, .ref m_AringCell, .ref m_AringDrops, z_i m_rings]), (m_AringCell, z_a G.2.1 6 m_ringCell), (m_AringDrops, z_a G.2.1 6 m_ringDrops), (gr_o, z_o 0 [z_i gr_rows, z_i gr_columns, z_i gr_cells, .ref gr_Akind, .ref gr_Abeside, .ref gr_AbesideBits]), (gr_Akind, z_a G.2.1 36 gr_kind), (gr_Abeside, z_a G.2.1 144 gr_beside), (gr_AbesideBits, z_l G.2.2.1 36 gr_besideBits), (nw_o, z_o 4 [.ref nw_Aheight, .ref nw_Adrops, z_i nw_hours, .long nw_restless]), (nw_Aheight, z_a G.2.1 36 nw_height), (nw_Adrops, z_a G.2.1 36 nw_drops), (la_o, z_o 4 [.ref la_Aheight, .ref la_Adrops, z_i la_hours_1, .long la_restless_1]), (la_Aheight, z_a G.2.1 36 la_height_9), (la_Adrops, z_a G.2.1 36 la_drops_1)]) rfl 10 rfl rfl rfl [.long r15] rfl (Nat.le_of_ble_eq_true rfl) ⟨Nat.le_of_ble_eq_true rfl, Nat.le_of_ble_eq_true rfl⟩ ⟨rfl, rfl⟩ ⟨Nat.zero_le _, Nat.zero_le _⟩ (fun hF => ?_)
                refine z_land C dX5_way_96 ?_
                refine z_lstore_n C dX5_way_97 (by decide) (L' := [(3, .long (r15 &&& r17)), (0, .ref m_o), (2, z_i x2), (5, z_i v5_1)]) rfl ?_
                refine z_aload_n C dX5_way_98 1 rfl ?_
                refine z_get C zf_X5_33 dX5_way_99 0 rfl rfl ?_
                refine z_aload_n C dX5_way_102 1 rfl ?_
                refine z_get C zf_X5_19 dX5_way_103 0 rfl rfl ?_
                obtain ⟨la_drops_19, la_hours_20, la_restless_21, k22, hm⟩ := z_b3s hm
                refine z_callVv C (k_X4_passHour l G N la_o la_Aheight la_Adrops gr_o gr_Akind gr_Abeside gr_AbesideBits la_height_9 la_drops_1 la_hours_1 la_restless_1 gr_rows gr_columns gr_cells gr_kind gr_beside gr_besideBits h_la_height_9 h_la_drops_1 h_la_hours_1 h_gr_rows h_gr_columns h_gr_cells h_gr_kind h_gr_beside la_drops_19 la_hours_20 la_restless_21 k22) zv_X4_passHour zl_X5_168 dX5_way_106 [10, 11, 12, 3, 4, 5, 6] rfl rfl rfl (ws' := [(m_o, z_o 5 [.ref tx_o, .ref gr_o, .ref nw_o, .ref og_o, .ref la_o, .ref ss_o, .ref un_o, .ref kp_o, .ref m_AringCell, .ref m_AringDrops, z_i m_rings]), (m_AringCell, z_a G.2.1 6 m_ringCell), (m_AringDrops, z_a G.2.1 6 m_ringDrops), (gr_o, z_o 0 [z_i gr_rows, z_i gr_columns, z_i gr_cells, .ref gr_Akind, .ref gr_Abeside, .ref gr_AbesideBits]), (gr_Akind, z_a G.2.1 36 gr_kind), (gr_Abeside, z_a G.2.1 144 gr_beside), (gr_AbesideBits, z_l G.2.2.1 36 gr_besideBits), (nw_o, z_o 4 [.ref nw_Aheight, .ref nw_Adrops, z_i nw_hours, .long nw_restless]), (nw_Aheight, z_a G.2.1 36 nw_height), (nw_Adrops, z_a G.2.1 36 nw_drops), (la_o, z_o 4 [.ref la_Aheight, .ref la_Adrops, z_i la_hours_20, .long la_restless_21]), (la_Aheight, z_a G.2.1 36 la_height_9), (la_Adrops, z_a G.2.1 36 la_drops_19)]) rfl 10 rfl rfl rfl [] rfl (Nat.le_of_ble_eq_true rfl) ⟨Nat.le_of_ble_eq_true rfl, Nat.le_of_ble_eq_true rfl⟩ ⟨rfl, rfl⟩ ⟨Nat.zero_le _, Nat.zero_le _⟩ (fun hF => ?_)
                obtain ⟨h_la_drops_19, h_la_hours_20, -⟩ := hF
                refine z_lload_n C dX5_way_109 0 rfl ?_
                refine z_aload_n C dX5_way_110 1 rfl ?_
                refine z_get C zf_X5_33 dX5_way_111 0 rfl rfl ?_
                refine z_aload_n C dX5_way_114 1 rfl ?_
                refine z_get C zf_X5_19 dX5_way_115 0 rfl rfl ?_
                obtain ⟨r23, k24, hm⟩ := z_b1s hm
                refine z_callVi C (k_X4_wetBits l G N la_o la_Aheight la_Adrops gr_o gr_Akind gr_Abeside gr_AbesideBits la_height_9 la_drops_19 la_hours_20 la_restless_21 gr_rows gr_columns gr_cells gr_kind gr_beside gr_besideBits h_la_height_9 h_la_drops_19 h_la_hours_20 h_gr_rows h_gr_columns h_gr_cells h_gr_kind h_gr_beside r23 k24) zv_X4_wetBits zl_X5_186 dX5_way_118 [10, 11, 12, 3, 4, 5, 6] rfl rfl rfl (ws' := [(m_o, z_o 5 [.ref tx_o, .ref gr_o, .ref nw_o, .ref og_o, .ref la_o, .ref ss_o, .ref un_o, .ref kp_o, .ref m_AringCell, .ref m_AringDrops, z_i m_rings]), (m_AringCell, z_a G.2.1 6 m_ringCell), (m_AringDrops, z_a G.2.1 6 m_ringDrops), (gr_o, z_o 0 [z_i gr_rows, z_i gr_columns, z_i gr_cells, .ref gr_Akind, .ref gr_Abeside, .ref gr_AbesideBits]), (gr_Akind, z_a G.2.1 36 gr_kind), (gr_Abeside, z_a G.2.1 144 gr_beside), (gr_AbesideBits, z_l G.2.2.1 36 gr_besideBits), (nw_o, z_o 4 [.ref nw_Aheight, .ref nw_Adrops, z_i nw_hours, .long nw_restless]), (nw_Aheight, z_a G.2.1 36 nw_height), (nw_Adrops, z_a G.2.1 36 nw_drops), (la_o, z_o 4 [.ref la_Aheight, .ref la_Adrops, z_i la_hours_20, .long la_restless_21]), (la_Aheight, z_a G.2.1 36 la_height_9), (la_Adrops, z_a G.2.1 36 la_drops_19)]) rfl 10 rfl rfl rfl [.long (r15 &&& r17)] rfl (Nat.le_of_ble_eq_true rfl) ⟨Nat.le_of_ble_eq_true rfl, Nat.le_of_ble_eq_true rfl⟩ ⟨rfl, rfl⟩ ⟨Nat.zero_le _, Nat.zero_le _⟩ (fun hF => ?_)
                refine z_land C dX5_way_121 ?_
                refine z_lstore_n C dX5_way_122 (by decide) (L' := [(3, .long ((r15 &&& r17) &&& r23)), (0, .ref m_o), (2, z_i x2), (5, z_i v5_1)]) rfl ?_
                obtain ⟨c25, hm⟩ := z_chk_some hm
                refine z_iinc C dX5_way_123 3 rfl (by decide) (L' := [(5, z_i (v5_1 + 1)), (3, .long ((r15 &&& r17) &&& r23)), (0, .ref m_o), (2, z_i x2)]) rfl ?_
                refine z_goto (tgt := 57) C dX5_way_126 (by decide) ?_
                refine z_sub (L' := [(0, .ref m_o), (2, z_i x2), (3, .long ((r15 &&& r17) &&& r23)), (5, z_i (v5_1 + 1))]) [2, 3, 1, 0] rfl ?_
                exact ih1 ((r15 &&& r17) &&& r23) (v5_1 + 1) la_drops_19 la_hours_20 la_restless_21 c25 h_la_drops_19 h_la_hours_20 hm
              · have hm := z_neg c14 hm
                refine z_iload C dX5_way_74 3 rfl ?_
                cases hm
                exact z_iret C E dX5_way_76 ⟨rfl, rfl, h_v5_1, h_la_height_9, h_la_drops_1, h_la_hours_1, trivial⟩
        refine z_sub (L' := [(0, .ref m_o), (2, z_i x2), (3, .long (z_lshl (1 : Int64) x1)), (5, z_i 0)]) [2, 4, 1, 0] rfl ?_
        exact L1 N (z_lshl (1 : Int64) x1) 0 la_drops_10 la_hours_11 la_restless (z_k 0 rfl) h_la_drops_10 h_la_hours_11 hm
      · have hm := z_neg c8 hm
        refine z_bipush C dX5_way_36 (by decide) ?_
        cases hm
        exact z_iret C E dX5_way_38 ⟨rfl, rfl, (z_k (-4) rfl), h_la_height, h_la_drops, h_la_hours, trivial⟩
    · have hm := z_neg c6 hm
      refine z_iconst C dX5_way_22 ?_
      cases hm
      exact z_iret C E dX5_way_23 ⟨rfl, rfl, (z_k (-1) rfl), h_la_height, h_la_drops, h_la_hours, trivial⟩
set_option maxRecDepth 100000 in
theorem k_X5_mayBeKerb (l : Launch) (G : z_G) (N : Nat) (m_o tx_o gr_o nw_o og_o la_o ss_o un_o kp_o m_AringCell m_AringDrops gr_Akind gr_Abeside gr_AbesideBits nw_Aheight nw_Adrops : Nat) (m_ringCell : (Int → Int)) (m_ringDrops : (Int → Int)) (m_rings : Int) (gr_rows : Int) (gr_columns : Int) (gr_cells : Int) (gr_kind : (Int → Int)) (gr_beside : (Int → Int)) (gr_besideBits : (Int → Int64)) (nw_height : (Int → Int)) (nw_drops : (Int → Int)) (nw_hours : Int) (nw_restless : Int64) (x1 : Int) (x2 : Int) (x3 : Int) (h_m_ringCell : z_r m_ringCell) (h_m_ringDrops : z_r m_ringDrops) (h_m_rings : z_n m_rings) (h_gr_rows : z_n gr_rows) (h_gr_columns : z_n gr_columns) (h_gr_cells : z_n gr_cells) (h_gr_kind : z_r gr_kind) (h_gr_beside : z_r gr_beside) (h_nw_height : z_r nw_height) (h_nw_drops : z_r nw_drops) (h_nw_hours : z_n nw_hours) (h_x1 : z_n x1) (h_x2 : z_n x2) (h_x3 : z_n x3) (rr : Int) (hm : m_X5_mayBeKerb N gr_cells gr_kind nw_drops x1 x2 x3 = some (rr)) : z_M l G yX5_mayBeKerb cX5_mayBeKerb 4 (some .boolean) (k2_rm 1 21) [.ref m_o, z_i x1, z_i x2, z_i x3] ([(m_o, z_o 5 [.ref tx_o, .ref gr_o, .ref nw_o, .ref og_o, .ref la_o, .ref ss_o, .ref un_o, .ref kp_o, .ref m_AringCell, .ref m_AringDrops, z_i m_rings]), (m_AringCell, z_a G.2.1 6 m_ringCell), (m_AringDrops, z_a G.2.1 6 m_ringDrops), (gr_o, z_o 0 [z_i gr_rows, z_i gr_columns, z_i gr_cells, .ref gr_Akind, .ref gr_Abeside, .ref gr_AbesideBits]), (gr_Akind, z_a G.2.1 36 gr_kind), (gr_Abeside, z_a G.2.1 144 gr_beside), (gr_AbesideBits, z_l G.2.2.1 36 gr_besideBits), (nw_o, z_o 4 [.ref nw_Aheight, .ref nw_Adrops, z_i nw_hours, .long nw_restless]), (nw_Aheight, z_a G.2.1 36 nw_height), (nw_Adrops, z_a G.2.1 36 nw_drops)]) 0 0 (fun v w => v = some (z_i rr) ∧ w = [(m_o, z_o 5 [.ref tx_o, .ref gr_o, .ref nw_o, .ref og_o, .ref la_o, .ref ss_o, .ref un_o, .ref kp_o, .ref m_AringCell, .ref m_AringDrops, z_i m_rings]), (m_AringCell, z_a G.2.1 6 m_ringCell), (m_AringDrops, z_a G.2.1 6 m_ringDrops), (gr_o, z_o 0 [z_i gr_rows, z_i gr_columns, z_i gr_cells, .ref gr_Akind, .ref gr_Abeside, .ref gr_AbesideBits]), (gr_Akind, z_a G.2.1 36 gr_kind), (gr_Abeside, z_a G.2.1 144 gr_beside), (gr_AbesideBits, z_l G.2.2.1 36 gr_besideBits), (nw_o, z_o 4 [.ref nw_Aheight, .ref nw_Adrops, z_i nw_hours, .long nw_restless]), (nw_Aheight, z_a G.2.1 36 nw_height), (nw_Adrops, z_a G.2.1 36 nw_drops)] ∧ (rr = 0 ∨ rr = 1) ∧ True) := by
  unfold m_X5_mayBeKerb at hm
  refine z_M.intro (by decide +kernel) (Nat.le_of_ble_eq_true rfl) (L := [(0, .ref m_o), (1, z_i x1), (2, z_i x2), (3, z_i x3)]) rfl (fun X C E => ?_)
  refine z_aload_n C dX5_mayBeKerb_0 0 rfl ?_
  refine z_get C zf_X5_19 dX5_mayBeKerb_1 0 rfl rfl ?_
  refine z_iload_n C dX5_mayBeKerb_4 1 rfl ?_
  obtain ⟨r1, k2, hm⟩ := z_b1s hm
  refine z_callVi C (k_X0_holds l G N gr_o gr_Akind gr_Abeside gr_AbesideBits gr_rows gr_columns gr_cells gr_kind gr_beside gr_besideBits x1 h_gr_rows h_gr_columns h_gr_cells h_gr_kind h_gr_beside h_x1 r1 k2) zv_X0_holds zl_X5_96 dX5_mayBeKerb_5 [3, 4, 5, 6] rfl rfl rfl (ws' := [(m_o, z_o 5 [.ref tx_o, .ref gr_o, .ref nw_o, .ref og_o, .ref la_o, .ref ss_o, .ref un_o, .ref kp_o, .ref m_AringCell, .ref m_AringDrops, z_i m_rings]), (m_AringCell, z_a G.2.1 6 m_ringCell), (m_AringDrops, z_a G.2.1 6 m_ringDrops), (gr_o, z_o 0 [z_i gr_rows, z_i gr_columns, z_i gr_cells, .ref gr_Akind, .ref gr_Abeside, .ref gr_AbesideBits]), (gr_Akind, z_a G.2.1 36 gr_kind), (gr_Abeside, z_a G.2.1 144 gr_beside), (gr_AbesideBits, z_l G.2.2.1 36 gr_besideBits), (nw_o, z_o 4 [.ref nw_Aheight, .ref nw_Adrops, z_i nw_hours, .long nw_restless]), (nw_Aheight, z_a G.2.1 36 nw_height), (nw_Adrops, z_a G.2.1 36 nw_drops)]) rfl 3 rfl rfl rfl [] rfl (Nat.le_of_ble_eq_true rfl) ⟨Nat.le_of_ble_eq_true rfl, Nat.le_of_ble_eq_true rfl⟩ ⟨rfl, rfl⟩ ⟨Nat.zero_le _, Nat.zero_le _⟩ (fun hF => ?_)
  obtain ⟨hb_r1, -⟩ := hF
  refine z_if_eq (tgt := 50) C (z_n01 hb_r1) dX5_mayBeKerb_8 (by decide) (fun c3 => ?_) (fun c3 => ?_)
  · have hm := z_pos c3 hm
    refine z_iconst C dX5_mayBeKerb_50 ?_
    cases hm
    exact z_zret C E (Or.inl rfl) dX5_mayBeKerb_51 ⟨rfl, rfl, (Or.inl rfl), trivial⟩
  · have hm := z_neg c3 hm
    refine z_iload_n C dX5_mayBeKerb_11 1 rfl ?_
    refine z_iload_n C dX5_mayBeKerb_12 2 rfl ?_
    refine z_icmp_eq (tgt := 50) C h_x1 h_x2 dX5_mayBeKerb_13 (by decide) (fun c4 => ?_) (fun c4 => ?_)
    · have hm := z_pos c4 hm
      refine z_iconst C dX5_mayBeKerb_50 ?_
      cases hm
      exact z_zret C E (Or.inl rfl) dX5_mayBeKerb_51 ⟨rfl, rfl, (Or.inl rfl), trivial⟩
    · have hm := z_neg c4 hm
      refine z_iload_n C dX5_mayBeKerb_16 1 rfl ?_
      refine z_iload_n C dX5_mayBeKerb_17 3 rfl ?_
      refine z_icmp_eq (tgt := 50) C h_x1 h_x3 dX5_mayBeKerb_18 (by decide) (fun c5 => ?_) (fun c5 => ?_)
      · have hm := z_pos c5 hm
        refine z_iconst C dX5_mayBeKerb_50 ?_
        cases hm
        exact z_zret C E (Or.inl rfl) dX5_mayBeKerb_51 ⟨rfl, rfl, (Or.inl rfl), trivial⟩
      · have hm := z_neg c5 hm
        refine z_aload_n C dX5_mayBeKerb_21 0 rfl ?_
        refine z_get C zf_X5_19 dX5_mayBeKerb_22 0 rfl rfl ?_
        refine z_get C zf_X5_107 dX5_mayBeKerb_25 3 rfl rfl ?_
        refine z_iload_n C dX5_mayBeKerb_28 1 rfl ?_
        obtain ⟨c6, hm⟩ := z_chk_some hm
        refine z_iald C dX5_mayBeKerb_29 4 rfl c6 h_x1 ?_
        refine z_iconst C dX5_mayBeKerb_30 ?_
        refine z_icmp_eq (tgt := 50) C (h_gr_kind _) (z_k 3 rfl) dX5_mayBeKerb_31 (by decide) (fun c7 => ?_) (fun c7 => ?_)
        · have hm := z_pos c7 hm
          refine z_iconst C dX5_mayBeKerb_50 ?_
          cases hm
          exact z_zret C E (Or.inl rfl) dX5_mayBeKerb_51 ⟨rfl, rfl, (Or.inl rfl), trivial⟩
        · have hm := z_neg c7 hm
          refine z_aload_n C dX5_mayBeKerb_34 0 rfl ?_
          refine z_get C zf_X5_26 dX5_mayBeKerb_35 0 rfl rfl ?_
          refine z_get C zf_X5_110 dX5_mayBeKerb_38 7 rfl rfl ?_
          refine z_iload_n C dX5_mayBeKerb_41 1 rfl ?_
          obtain ⟨c8, hm⟩ := z_chk_some hm
          refine z_iald C dX5_mayBeKerb_42 9 rfl c8 h_x1 ?_
          refine z_if_ne (tgt := 50) C (h_nw_drops _) dX5_mayBeKerb_43 (by decide) (fun c9 => ?_) (fun c9 => ?_)
          · have hm := z_pos c9 hm
            refine z_iconst C dX5_mayBeKerb_50 ?_
            cases hm
            exact z_zret C E (Or.inl rfl) dX5_mayBeKerb_51 ⟨rfl, rfl, (Or.inl rfl), trivial⟩
          · have hm := z_neg c9 hm
            refine z_iconst C dX5_mayBeKerb_46 ?_
            refine z_goto (tgt := 51) C dX5_mayBeKerb_47 (by decide) ?_
            cases hm
            exact z_zret C E (Or.inr rfl) dX5_mayBeKerb_51 ⟨rfl, rfl, (Or.inr rfl), trivial⟩
set_option maxRecDepth 100000 in
theorem k_X0_makeKerb (l : Launch) (G : z_G) (N : Nat) (t_o t_Akind t_Abeside t_AbesideBits : Nat) (t_rows : Int) (t_columns : Int) (t_cells : Int) (t_kind : (Int → Int)) (t_beside : (Int → Int)) (t_besideBits : (Int → Int64)) (x1 : Int) (h_t_rows : z_n t_rows) (h_t_columns : z_n t_columns) (h_t_cells : z_n t_cells) (h_t_kind : z_r t_kind) (h_t_beside : z_r t_beside) (h_x1 : z_n x1) (q_t_kind : (Int → Int)) (q_t_beside : (Int → Int)) (q_t_besideBits : (Int → Int64)) (hm : m_X0_makeKerb N t_rows t_columns t_cells t_kind t_beside t_besideBits x1 = some (q_t_kind, q_t_beside, q_t_besideBits)) : z_M l G yX0_makeKerb cX0_makeKerb 2 none (k2_rm 4 92) [.ref t_o, z_i x1] ([(t_o, z_o 0 [z_i t_rows, z_i t_columns, z_i t_cells, .ref t_Akind, .ref t_Abeside, .ref t_AbesideBits]), (t_Akind, z_a G.2.1 36 t_kind), (t_Abeside, z_a G.2.1 144 t_beside), (t_AbesideBits, z_l G.2.2.1 36 t_besideBits)]) 0 0 (fun v w => v = none ∧ w = [(t_o, z_o 0 [z_i t_rows, z_i t_columns, z_i t_cells, .ref t_Akind, .ref t_Abeside, .ref t_AbesideBits]), (t_Akind, z_a G.2.1 36 q_t_kind), (t_Abeside, z_a G.2.1 144 q_t_beside), (t_AbesideBits, z_l G.2.2.1 36 q_t_besideBits)] ∧ z_r q_t_kind ∧ z_r q_t_beside ∧ True) := by
  unfold m_X0_makeKerb at hm
  refine z_M.intro (by decide +kernel) (Nat.le_of_ble_eq_true rfl) (L := [(0, .ref t_o), (1, z_i x1)]) rfl (fun X C E => ?_)
  refine z_aload_n C dX0_makeKerb_0 0 rfl ?_
  refine z_iload_n C dX0_makeKerb_1 1 rfl ?_
  obtain ⟨r1, k2, hm⟩ := z_b1s hm
  refine z_callVi C (k_X0_holds l G N t_o t_Akind t_Abeside t_AbesideBits t_rows t_columns t_cells t_kind t_beside t_besideBits x1 h_t_rows h_t_columns h_t_cells h_t_kind h_t_beside h_x1 r1 k2) zv_X0_holds zl_X0_46 dX0_makeKerb_2 [0, 1, 2, 3] rfl rfl rfl (ws' := [(t_o, z_o 0 [z_i t_rows, z_i t_columns, z_i t_cells, .ref t_Akind, .ref t_Abeside, .ref t_AbesideBits]), (t_Akind, z_a G.2.1 36 t_kind), (t_Abeside, z_a G.2.1 144 t_beside), (t_AbesideBits, z_l G.2.2.1 36 t_besideBits)]) rfl 0 rfl rfl rfl [] rfl (Nat.le_of_ble_eq_true rfl) ⟨Nat.le_of_ble_eq_true rfl, Nat.le_of_ble_eq_true rfl⟩ ⟨rfl, rfl⟩ ⟨Nat.zero_le _, Nat.zero_le _⟩ (fun hF => ?_)
  obtain ⟨hb_r1, -⟩ := hF
  refine z_if_eq (tgt := 19) C (z_n01 hb_r1) dX0_makeKerb_5 (by decide) (fun c3 => ?_) (fun c3 => ?_)
  · have hm := z_pos c3 hm
    cases hm
    exact z_vret C E dX0_makeKerb_19 ⟨rfl, rfl, h_t_kind, h_t_beside, trivial⟩
  · have hm := z_neg c3 hm
    refine z_aload_n C dX0_makeKerb_8 0 rfl ?_
    refine z_get C zf_X0_21 dX0_makeKerb_9 0 rfl rfl ?_
    refine z_iload_n C dX0_makeKerb_12 1 rfl ?_
    refine z_iconst C dX0_makeKerb_13 ?_
    obtain ⟨c4, hm⟩ := z_chk_some hm
    refine z_iast C dX0_makeKerb_14 1 rfl c4 h_x1 (ws' := [(t_o, z_o 0 [z_i t_rows, z_i t_columns, z_i t_cells, .ref t_Akind, .ref t_Abeside, .ref t_AbesideBits]), (t_Akind, z_a G.2.1 36 (z_up t_kind x1 3)), (t_Abeside, z_a G.2.1 144 t_beside), (t_AbesideBits, z_l G.2.2.1 36 t_besideBits)]) rfl ?_
    refine z_aload_n C dX0_makeKerb_15 0 rfl ?_
    obtain ⟨t_beside_5, t_besideBits_6, k7, hm⟩ := z_b2s hm
    refine z_callVv C (k_X0_link l G N t_o t_Akind t_Abeside t_AbesideBits t_rows t_columns t_cells (z_up t_kind x1 3) t_beside t_besideBits h_t_rows h_t_columns h_t_cells (z_r_up h_t_kind (z_k 3 rfl)) h_t_beside t_beside_5 t_besideBits_6 k7) zv_X0_link zl_X0_50 dX0_makeKerb_16 [0, 1, 2, 3] rfl rfl rfl (ws' := [(t_o, z_o 0 [z_i t_rows, z_i t_columns, z_i t_cells, .ref t_Akind, .ref t_Abeside, .ref t_AbesideBits]), (t_Akind, z_a G.2.1 36 (z_up t_kind x1 3)), (t_Abeside, z_a G.2.1 144 t_beside_5), (t_AbesideBits, z_l G.2.2.1 36 t_besideBits_6)]) rfl 0 rfl rfl rfl [] rfl (Nat.le_of_ble_eq_true rfl) ⟨Nat.le_of_ble_eq_true rfl, Nat.le_of_ble_eq_true rfl⟩ ⟨rfl, rfl⟩ ⟨Nat.zero_le _, Nat.zero_le _⟩ (fun hF => ?_)
    obtain ⟨h_t_beside_5, -⟩ := hF
    cases hm
    exact z_vret C E dX0_makeKerb_19 ⟨rfl, rfl, (z_r_up h_t_kind (z_k 3 rfl)), h_t_beside_5, trivial⟩
