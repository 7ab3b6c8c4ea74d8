set_option maxRecDepth 100000 in
theorem k_X5_apartBehindRain (l : Launch) (G : z_G) (N : Nat) (m_o tx_o gr_o nw_o og_o la_o ss_o un_o kp_o m_AringCell m_AringDrops p_o p_Akind p_Abeside p_AbesideBits nw_Aheight nw_Adrops la_Aheight la_Adrops ss_Astate ss_Awaiting : Nat) (m_ringCell : (Int → Int)) (m_ringDrops : (Int → Int)) (m_rings : Int) (p_rows : Int) (p_columns : Int) (p_cells : Int) (p_kind : (Int → Int)) (p_beside : (Int → Int)) (p_besideBits : (Int → Int64)) (nw_height : (Int → Int)) (nw_drops : (Int → Int)) (nw_hours : Int) (nw_restless : Int64) (la_height : (Int → Int)) (la_drops : (Int → Int)) (la_hours : Int) (la_restless : Int64) (ss_state : (Int → Int)) (ss_waiting : (Int → Int)) (ss_waits : Int) (ss_cells : Int) (ss_many : Int) (x2 : Int) (x3 : Int) (x4 : Int) (h_m_ringCell : z_r m_ringCell) (h_m_ringDrops : z_r m_ringDrops) (h_m_rings : z_n m_rings) (h_p_rows : z_n p_rows) (h_p_columns : z_n p_columns) (h_p_cells : z_n p_cells) (h_p_kind : z_r p_kind) (h_p_beside : z_r p_beside) (h_nw_height : z_r nw_height) (h_nw_drops : z_r nw_drops) (h_nw_hours : z_n nw_hours) (h_la_height : z_r la_height) (h_la_drops : z_r la_drops) (h_la_hours : z_n la_hours) (h_ss_state : z_r ss_state) (h_ss_waiting : z_r ss_waiting) (h_ss_waits : z_n ss_waits) (h_ss_cells : z_n ss_cells) (h_ss_many : z_n ss_many) (h_x2 : z_n x2) (h_x3 : z_n x3) (h_x4 : z_n x4) (rr : Int) (q_la_height : (Int → Int)) (q_la_drops : (Int → Int)) (q_la_hours : Int) (q_la_restless : Int64) (q_ss_state : (Int → Int)) (q_ss_waiting : (Int → Int)) (q_ss_waits : Int) (q_ss_cells : Int) (q_ss_many : Int) (hm : m_X5_apartBehindRain N p_cells p_kind p_beside p_besideBits nw_height nw_drops nw_hours la_height la_drops la_hours la_restless ss_state ss_waiting ss_waits ss_cells ss_many x2 x3 x4 = some (rr, q_la_height, q_la_drops, q_la_hours, q_la_restless, q_ss_state, q_ss_waiting, q_ss_waits, q_ss_cells, q_ss_many)) : z_M l G yX5_apartBehindRain cX5_apartBehindRain 5 (some .boolean) (k2_rm 6 133) [.ref m_o, .ref p_o, z_i x2, z_i x3, z_i x4] (w_X5 G m_o tx_o gr_o nw_o og_o la_o ss_o un_o kp_o m_AringCell m_AringDrops m_ringCell m_ringDrops m_rings ++ (w_X0 G p_o p_Akind p_Abeside p_AbesideBits p_rows p_columns p_cells p_kind p_beside p_besideBits ++ (w_X4 G nw_o nw_Aheight nw_Adrops nw_height nw_drops nw_hours nw_restless ++ (w_X4 G la_o la_Aheight la_Adrops la_height la_drops la_hours la_restless ++ w_X2 G ss_o ss_Astate ss_Awaiting ss_state ss_waiting ss_waits ss_cells ss_many)))) 0 0 (fun v w => v = some (z_i rr) ∧ w = w_X5 G m_o tx_o gr_o nw_o og_o la_o ss_o un_o kp_o m_AringCell m_AringDrops m_ringCell m_ringDrops m_rings ++ (w_X0 G p_o p_Akind p_Abeside p_AbesideBits p_rows p_columns p_cells p_kind p_beside p_besideBits ++ (w_X4 G nw_o nw_Aheight nw_Adrops nw_height nw_drops nw_hours nw_restless ++ (w_X4 G la_o la_Aheight la_Adrops q_la_height q_la_drops q_la_hours q_la_restless ++ w_X2 G ss_o ss_Astate ss_Awaiting q_ss_state q_ss_waiting q_ss_waits q_ss_cells q_ss_many))) ∧ (rr = 0 ∨ rr = 1) ∧ z_r q_la_height ∧ z_r q_la_drops ∧ z_n q_la_hours ∧ z_r q_ss_state ∧ z_r q_ss_waiting ∧ z_n q_ss_waits ∧ z_n q_ss_cells ∧ z_n q_ss_many ∧ True) := by
  unfold m_X5_apartBehindRain at hm
  refine z_M.intro (by decide +kernel) (Nat.le_of_ble_eq_true rfl) (L := [(0, .ref m_o), (1, .ref p_o), (2, z_i x2), (3, z_i x3), (4, z_i x4)]) rfl (fun X C E => ?_)
  refine z_aload_n C dX5_apartBehindRain_0 0 rfl ?_
  refine z_get C zf_X5_35 dX5_apartBehindRain_1 0 rfl rfl ?_
  refine z_aload_n C dX5_apartBehindRain_4 0 rfl ?_
  refine z_get C zf_X5_28 dX5_apartBehindRain_5 0 rfl rfl ?_
  obtain ⟨la_height_1, la_drops_2, la_hours_3, k4, hm⟩ := z_b3s hm
  refine z_callVv C (k_X4_copyFrom l G N la_o la_Aheight la_Adrops nw_o nw_Aheight nw_Adrops la_height la_drops la_hours la_restless nw_height nw_drops nw_hours nw_restless h_la_height h_la_drops h_la_hours h_nw_height h_nw_drops h_nw_hours la_height_1 la_drops_2 la_hours_3 k4) zv_X4_copyFrom zl_X5_164 dX5_apartBehindRain_8 [10, 11, 12, 7, 8, 9] rfl rfl rfl (ws' := w_X5 G m_o tx_o gr_o nw_o og_o la_o ss_o un_o kp_o m_AringCell m_AringDrops m_ringCell m_ringDrops m_rings ++ (w_X0 G p_o p_Akind p_Abeside p_AbesideBits p_rows p_columns p_cells p_kind p_beside p_besideBits ++ (w_X4 G nw_o nw_Aheight nw_Adrops nw_height nw_drops nw_hours nw_restless ++ (w_X4 G la_o la_Aheight la_Adrops la_height_1 la_drops_2 la_hours_3 la_restless ++ w_X2 G ss_o ss_Astate ss_Awaiting ss_state ss_waiting ss_waits ss_cells ss_many)))) rfl 10 rfl rfl rfl [] rfl (Nat.le_of_ble_eq_true rfl) ⟨Nat.le_of_ble_eq_true rfl, Nat.le_of_ble_eq_true rfl⟩ ⟨rfl, rfl⟩ ⟨Nat.zero_le _, Nat.zero_le _⟩ (fun hF => ?_)
  obtain ⟨h_la_height_1, h_la_drops_2, h_la_hours_3, -⟩ := hF
  refine z_aload_n C dX5_apartBehindRain_11 0 rfl ?_
  refine z_get C zf_X5_35 dX5_apartBehindRain_12 0 rfl rfl ?_
  refine z_aload_n C dX5_apartBehindRain_15 1 rfl ?_
  refine z_iload C dX5_apartBehindRain_16 4 rfl ?_
  obtain ⟨la_drops_5, la_restless_6, k7, hm⟩ := z_b2s hm
  refine z_callVv C (k_X4_pour l G N la_o la_Aheight la_Adrops p_o p_Akind p_Abeside p_AbesideBits la_height_1 la_drops_2 la_hours_3 la_restless p_rows p_columns p_cells p_kind p_beside p_besideBits x4 h_la_height_1 h_la_drops_2 h_la_hours_3 h_p_rows h_p_columns h_p_cells h_p_kind h_p_beside h_x4 la_drops_5 la_restless_6 k7) zv_X4_pour zl_X5_134 dX5_apartBehindRain_18 [10, 11, 12, 3, 4, 5, 6] rfl rfl rfl (ws' := w_X5 G m_o tx_o gr_o nw_o og_o la_o ss_o un_o kp_o m_AringCell m_AringDrops m_ringCell m_ringDrops m_rings ++ (w_X0 G p_o p_Akind p_Abeside p_AbesideBits p_rows p_columns p_cells p_kind p_beside p_besideBits ++ (w_X4 G nw_o nw_Aheight nw_Adrops nw_height nw_drops nw_hours nw_restless ++ (w_X4 G la_o la_Aheight la_Adrops la_height_1 la_drops_5 la_hours_3 la_restless_6 ++ w_X2 G ss_o ss_Astate ss_Awaiting ss_state ss_waiting ss_waits ss_cells ss_many)))) rfl 10 rfl rfl rfl [] rfl (Nat.le_of_ble_eq_true rfl) ⟨Nat.le_of_ble_eq_true rfl, Nat.le_of_ble_eq_true rfl⟩ ⟨rfl, rfl⟩ ⟨Nat.zero_le _, Nat.zero_le _⟩ (fun hF => ?_)
  obtain ⟨h_la_drops_5, -⟩ := hF
  refine z_aload_n C dX5_apartBehindRain_21 0 rfl ?_
  refine z_get C zf_X5_41 dX5_apartBehindRain_22 0 rfl rfl ?_
  refine z_aload_n C dX5_apartBehindRain_25 1 rfl ?_
  refine z_aload_n C dX5_apartBehindRain_26 0 rfl ?_
  refine z_get C zf_X5_35 dX5_apartBehindRain_27 0 rfl rfl ?_
  obtain ⟨ss_state_8, ss_waiting_9, ss_waits_10, ss_cells_11, ss_many_12, k13, hm⟩ := z_b5s hm
  refine z_callVv C (k_X2_map l G N ss_o ss_Astate ss_Awaiting p_o p_Akind p_Abeside p_AbesideBits la_o la_Aheight la_Adrops ss_state ss_waiting ss_waits ss_cells ss_many p_rows p_columns p_cells p_kind p_beside p_besideBits la_height_1 la_drops_5 la_hours_3 la_restless_6 h_ss_state h_ss_waiting h_ss_waits h_ss_cells h_ss_many h_p_rows h_p_columns h_p_cells h_p_kind h_p_beside h_la_height_1 h_la_drops_5 h_la_hours_3 ss_state_8 ss_waiting_9 ss_waits_10 ss_cells_11 ss_many_12 k13) zv_X2_map zl_X5_115 dX5_apartBehindRain_30 [13, 14, 15, 3, 4, 5, 6, 10, 11, 12] rfl rfl rfl (ws' := w_X5 G m_o tx_o gr_o nw_o og_o la_o ss_o un_o kp_o m_AringCell m_AringDrops m_ringCell m_ringDrops m_rings ++ (w_X0 G p_o p_Akind p_Abeside p_AbesideBits p_rows p_columns p_cells p_kind p_beside p_besideBits ++ (w_X4 G nw_o nw_Aheight nw_Adrops nw_height nw_drops nw_hours nw_restless ++ (w_X4 G la_o la_Aheight la_Adrops la_height_1 la_drops_5 la_hours_3 la_restless_6 ++ w_X2 G ss_o ss_Astate ss_Awaiting ss_state_8 ss_waiting_9 ss_waits_10 ss_cells_11 ss_many_12)))) rfl 13 rfl rfl rfl [] rfl (Nat.le_of_ble_eq_true rfl) ⟨Nat.le_of_ble_eq_true rfl, Nat.le_of_ble_eq_true rfl⟩ ⟨rfl, rfl⟩ ⟨Nat.zero_le _, Nat.zero_le _⟩ (fun hF => ?_)
  obtain ⟨h_ss_state_8, h_ss_waiting_9, h_ss_waits_10, h_ss_cells_11, h_ss_many_12, -⟩ := hF
  refine z_aload_n C dX5_apartBehindRain_33 0 rfl ?_
  refine z_get C zf_X5_41 dX5_apartBehindRain_34 0 rfl rfl ?_
  refine z_iload_n C dX5_apartBehindRain_37 2 rfl ?_
  refine z_iload_n C dX5_apartBehindRain_38 3 rfl ?_
  obtain ⟨r14, k15, hm⟩ := z_b1s hm
  refine z_callVi C (k_X2_apart l G N ss_o ss_Astate ss_Awaiting ss_state_8 ss_waiting_9 ss_waits_10 ss_cells_11 ss_many_12 x2 x3 h_ss_state_8 h_ss_waiting_9 h_ss_waits_10 h_ss_cells_11 h_ss_many_12 h_x2 h_x3 r14 k15) zv_X2_apart zl_X5_178 dX5_apartBehindRain_39 [13, 14, 15] rfl rfl rfl (ws' := w_X5 G m_o tx_o gr_o nw_o og_o la_o ss_o un_o kp_o m_AringCell m_AringDrops m_ringCell m_ringDrops m_rings ++ (w_X0 G p_o p_Akind p_Abeside p_AbesideBits p_rows p_columns p_cells p_kind p_beside p_besideBits ++ (w_X4 G nw_o nw_Aheight nw_Adrops nw_height nw_drops nw_hours nw_restless ++ (w_X4 G la_o la_Aheight la_Adrops la_height_1 la_drops_5 la_hours_3 la_restless_6 ++ w_X2 G ss_o ss_Astate ss_Awaiting ss_state_8 ss_waiting_9 ss_waits_10 ss_cells_11 ss_many_12)))) rfl 13 rfl rfl rfl [] rfl (Nat.le_of_ble_eq_true rfl) ⟨Nat.le_of_ble_eq_true rfl, Nat.le_of_ble_eq_true rfl⟩ ⟨rfl, rfl⟩ ⟨Nat.zero_le _, Nat.zero_le _⟩ (fun hF => ?_)
  obtain ⟨hb_r14, -⟩ := hF
  cases hm
  exact z_zret C E hb_r14 dX5_apartBehindRain_42 ⟨rfl, rfl, hb_r14, h_la_height_1, h_la_drops_5, h_la_hours_3, h_ss_state_8, h_ss_waiting_9, h_ss_waits_10, h_ss_cells_11, h_ss_many_12, trivial⟩
set_option maxRecDepth 100000 in
theorem k_X5_join (l : Launch) (G : z_G) (N : Nat) (m_o tx_o gr_o nw_o og_o la_o ss_o un_o kp_o m_AringCell m_AringDrops gr_Akind gr_Abeside gr_AbesideBits nw_Aheight nw_Adrops la_Aheight la_Adrops ss_Astate ss_Awaiting : Nat) (m_ringCell : (Int → Int)) (m_ringDrops : (Int → Int)) (m_rings : Int) (gr_rows : Int) (gr_columns : Int) (gr_cells : Int) (gr_kind : (Int → Int)) (gr_beside : (Int → Int)) (gr_besideBits : (Int → Int64)) (nw_height : (Int → Int)) (nw_drops : (Int → Int)) (nw_hours : Int) (nw_restless : Int64) (la_height : (Int → Int)) (la_drops : (Int → Int)) (la_hours : Int) (la_restless : Int64) (ss_state : (Int → Int)) (ss_waiting : (Int → Int)) (ss_waits : Int) (ss_cells : Int) (ss_many : Int) (x1 : Int) (x2 : Int) (h_m_ringCell : z_r m_ringCell) (h_m_ringDrops : z_r m_ringDrops) (h_m_rings : z_n m_rings) (h_gr_rows : z_n gr_rows) (h_gr_columns : z_n gr_columns) (h_gr_cells : z_n gr_cells) (h_gr_kind : z_r gr_kind) (h_gr_beside : z_r gr_beside) (h_nw_height : z_r nw_height) (h_nw_drops : z_r nw_drops) (h_nw_hours : z_n nw_hours) (h_la_height : z_r la_height) (h_la_drops : z_r la_drops) (h_la_hours : z_n la_hours) (h_ss_state : z_r ss_state) (h_ss_waiting : z_r ss_waiting) (h_ss_waits : z_n ss_waits) (h_ss_cells : z_n ss_cells) (h_ss_many : z_n ss_many) (h_x1 : z_n x1) (h_x2 : z_n x2) (rr : Int) (q_la_height : (Int → Int)) (q_la_drops : (Int → Int)) (q_la_hours : Int) (q_la_restless : Int64) (q_ss_state : (Int → Int)) (q_ss_waiting : (Int → Int)) (q_ss_waits : Int) (q_ss_cells : Int) (q_ss_many : Int) (hm : m_X5_join N gr_cells gr_kind gr_beside gr_besideBits nw_height nw_drops nw_hours la_height la_drops la_hours la_restless ss_state ss_waiting ss_waits ss_cells ss_many x1 x2 = some (rr, q_la_height, q_la_drops, q_la_hours, q_la_restless, q_ss_state, q_ss_waiting, q_ss_waits, q_ss_cells, q_ss_many)) : z_M l G yX5_join cX5_join 4 (some .int) (k2_rm 7 157) [.ref m_o, z_i x1, z_i x2] (w_X5 G m_o tx_o gr_o nw_o og_o la_o ss_o un_o kp_o m_AringCell m_AringDrops m_ringCell m_ringDrops m_rings ++ (w_X0 G gr_o gr_Akind gr_Abeside gr_AbesideBits gr_rows gr_columns gr_cells gr_kind gr_beside gr_besideBits ++ (w_X4 G nw_o nw_Aheight nw_Adrops nw_height nw_drops nw_hours nw_restless ++ (w_X4 G la_o la_Aheight la_Adrops la_height la_drops la_hours la_restless ++ w_X2 G ss_o ss_Astate ss_Awaiting ss_state ss_waiting ss_waits ss_cells ss_many)))) 0 0 (fun v w => v = some (z_i rr) ∧ w = w_X5 G m_o tx_o gr_o nw_o og_o la_o ss_o un_o kp_o m_AringCell m_AringDrops m_ringCell m_ringDrops m_rings ++ (w_X0 G gr_o gr_Akind gr_Abeside gr_AbesideBits gr_rows gr_columns gr_cells gr_kind gr_beside gr_besideBits ++ (w_X4 G nw_o nw_Aheight nw_Adrops nw_height nw_drops nw_hours nw_restless ++ (w_X4 G la_o la_Aheight la_Adrops q_la_height q_la_drops q_la_hours q_la_restless ++ w_X2 G ss_o ss_Astate ss_Awaiting q_ss_state q_ss_waiting q_ss_waits q_ss_cells q_ss_many))) ∧ z_n rr ∧ z_r q_la_height ∧ z_r q_la_drops ∧ z_n q_la_hours ∧ z_r q_ss_state ∧ z_r q_ss_waiting ∧ z_n q_ss_waits ∧ z_n q_ss_cells ∧ z_n q_ss_many ∧ True) := by
  unfold m_X5_join at hm
  refine z_M.intro (by decide +kernel) (Nat.le_of_ble_eq_true rfl) (L := [(0, .ref m_o), (1, z_i x1), (2, z_i x2)]) rfl (fun X C E => ?_)
  refine z_aload_n C dX5_join_0 0 rfl ?_
  refine z_iload_n C dX5_join_1 1 rfl ?_
  refine z_iload_n C dX5_join_2 2 rfl ?_
  obtain ⟨r1, k2, hm⟩ := z_b1s hm
  refine z_callVi C (k_X5_areTwo l G N m_o tx_o gr_o nw_o og_o la_o ss_o un_o kp_o m_AringCell m_AringDrops gr_Akind gr_Abeside gr_AbesideBits m_ringCell m_ringDrops m_rings gr_rows gr_columns gr_cells gr_kind gr_beside gr_besideBits x1 x2 h_m_ringCell h_m_ringDrops h_m_rings h_gr_rows h_gr_columns h_gr_cells h_gr_kind h_gr_beside h_x1 h_x2 r1 k2) zv_X5_areTwo zl_X5_170 dX5_join_3 [0, 1, 2, 3, 4, 5, 6] rfl rfl rfl (ws' := w_X5 G m_o tx_o gr_o nw_o og_o la_o ss_o un_o kp_o m_AringCell m_AringDrops m_ringCell m_ringDrops m_rings ++ (w_X0 G gr_o gr_Akind gr_Abeside gr_AbesideBits gr_rows gr_columns gr_cells gr_kind gr_beside gr_besideBits ++ (w_X4 G nw_o nw_Aheight nw_Adrops nw_height nw_drops nw_hours nw_restless ++ (w_X4 G la_o la_Aheight la_Adrops la_height la_drops la_hours la_restless ++ w_X2 G ss_o ss_Astate ss_Awaiting ss_state ss_waiting ss_waits ss_cells ss_many)))) rfl 0 rfl rfl rfl [] rfl (Nat.le_of_ble_eq_true rfl) ⟨Nat.le_of_ble_eq_true rfl, Nat.le_of_ble_eq_true rfl⟩ ⟨rfl, rfl⟩ ⟨Nat.zero_le _, Nat.zero_le _⟩ (fun hF => ?_)
  obtain ⟨hb_r1, -⟩ := hF
  refine z_if_ne (tgt := 11) C (z_n01 hb_r1) dX5_join_6 (by decide) (fun c3 => ?_) (fun c3 => ?_)
  · have hm := z_pos c3 hm
    refine z_iconst C dX5_join_11 ?_
    refine z_istore_n C dX5_join_12 (by decide) (L' := [(3, z_i 0), (0, .ref m_o), (1, z_i x1), (2, z_i x2)]) rfl ?_
    have L1 : ∀ (n1 : Nat) (v3_1 : Int) (la_height_1 : (Int → Int)) (la_drops_1 : (Int → Int)) (la_hours_1 : Int) (la_restless_1 : Int64) (ss_state_1 : (Int → Int)) (ss_waiting_1 : (Int → Int)) (ss_waits_1 : Int) (ss_cells_1 : Int) (ss_many_1 : Int), z_n v3_1 → z_r la_height_1 → z_r la_drops_1 → z_n la_hours_1 → z_r ss_state_1 → z_r ss_waiting_1 → z_n ss_waits_1 → z_n ss_cells_1 → z_n ss_many_1 → m_X5_join_l1 N gr_cells gr_kind gr_beside gr_besideBits nw_height nw_drops nw_hours x1 x2 n1 v3_1 la_height_1 la_drops_1 la_hours_1 la_restless_1 ss_state_1 ss_waiting_1 ss_waits_1 ss_cells_1 ss_many_1 = some (rr, q_la_height, q_la_drops, q_la_hours, q_la_restless, q_ss_state, q_ss_waiting, q_ss_waits, q_ss_cells, q_ss_many) → z_J X 0 0 (w_X5 G m_o tx_o gr_o nw_o og_o la_o ss_o un_o kp_o m_AringCell m_AringDrops m_ringCell m_ringDrops m_rings ++ (w_X0 G gr_o gr_Akind gr_Abeside gr_AbesideBits gr_rows gr_columns gr_cells gr_kind gr_beside gr_besideBits ++ (w_X4 G nw_o nw_Aheight nw_Adrops nw_height nw_drops nw_hours nw_restless ++ (w_X4 G la_o la_Aheight la_Adrops la_height_1 la_drops_1 la_hours_1 la_restless_1 ++ w_X2 G ss_o ss_Astate ss_Awaiting ss_state_1 ss_waiting_1 ss_waits_1 ss_cells_1 ss_many_1)))) [(0, .ref m_o), (1, z_i x1), (2, z_i x2), (3, z_i v3_1)] 13 [] := by
      clear hm
      intro n1
      induction n1 with
      | zero =>
        intro v3_1 la_height_1 la_drops_1 la_hours_1 la_restless_1 ss_state_1 ss_waiting_1 ss_waits_1 ss_cells_1 ss_many_1 h_v3_1 h_la_height_1 h_la_drops_1 h_la_hours_1 h_ss_state_1 h_ss_waiting_1 h_ss_waits_1 h_ss_cells_1 h_ss_many_1 hm
        rw [m_X5_join_l1] at hm
        cases hm
      | succ n1 ih1 =>
        intro v3_1 la_height_1 la_drops_1 la_hours_1 la_restless_1 ss_state_1 ss_waiting_1 ss_waits_1 ss_cells_1 ss_many_1 h_v3_1 h_la_height_1 h_la_drops_1 h_la_hours_1 h_ss_state_1 h_ss_waiting_1 h_ss_waits_1 h_ss_cells_1 h_ss_many_1 hm
        rw [m_X5_join_l1] at hm
        refine z_iload_n C dX5_join_13 3 rfl ?_
        refine z_bipush C dX5_join_14 (by decide) ?_
        refine z_icmp_gt (tgt := 41) C h_v3_1 (z_k 30 rfl) dX5_join_16 (by decide) (fun c4 => ?_) (fun c4 => ?_)
        · have hm := z_pos c4 hm
          refine z_bipush C dX5_join_41 (by decide) ?_
          cases hm
          exact z_iret C E dX5_join_43 ⟨rfl, rfl, (z_k (-4) rfl), h_la_height_1, h_la_drops_1, h_la_hours_1, h_ss_state_1, h_ss_waiting_1, h_ss_waits_1, h_ss_cells_1, h_ss_many_1, trivial⟩
        · have hm := z_neg c4 hm
          refine z_aload_n C dX5_join_19 0 rfl ?_
          refine z_aload_n C dX5_join_20 0 rfl ?_
          refine z_get C zf_X5_21 dX5_join_21 0 rfl rfl ?_
          refine z_iload_n C dX5_join_24 1 rfl ?_
          refine z_iload_n C dX5_join_25 2 rfl ?_
          refine z_iload_n C dX5_join_26 3 rfl ?_
          obtain ⟨r5, la_height_6, la_drops_7, la_hours_8, la_restless_9, ss_state_10, ss_waiting_11, ss_waits_12, ss_cells_13, ss_many_14, k15, hm⟩ := z_b10s hm
          refine z_callVi C (k_X5_apartBehindRain l G N m_o tx_o gr_o nw_o og_o la_o ss_o un_o kp_o m_AringCell m_AringDrops gr_o gr_Akind gr_Abeside gr_AbesideBits nw_Aheight nw_Adrops la_Aheight la_Adrops ss_Astate ss_Awaiting m_ringCell m_ringDrops m_rings gr_rows gr_columns gr_cells gr_kind gr_beside gr_besideBits nw_height nw_drops nw_hours nw_restless la_height_1 la_drops_1 la_hours_1 la_restless_1 ss_state_1 ss_waiting_1 ss_waits_1 ss_cells_1 ss_many_1 x1 x2 v3_1 h_m_ringCell h_m_ringDrops h_m_rings h_gr_rows h_gr_columns h_gr_cells h_gr_kind h_gr_beside h_nw_height h_nw_drops h_nw_hours h_la_height_1 h_la_drops_1 h_la_hours_1 h_ss_state_1 h_ss_waiting_1 h_ss_waits_1 h_ss_cells_1 h_ss_many_1 h_x1 h_x2 h_v3_1 r5 la_height_6 la_drops_7 la_hours_8 la_restless_9 ss_state_10 ss_waiting_11 ss_waits_12 ss_cells_13 ss_many_14 k15) zv_X5_apartBehindRain zl_X5_174 dX5_join_27 [0, 1, 2, 3, 4, 5, 6, 7, 8, 9, 10, 11, 12, 13, 14, 15] rfl rfl rfl (ws' := w_X5 G m_o tx_o gr_o nw_o og_o la_o ss_o un_o kp_o m_AringCell m_AringDrops m_ringCell m_ringDrops m_rings ++ (w_X0 G gr_o gr_Akind gr_Abeside gr_AbesideBits gr_rows gr_columns gr_cells gr_kind gr_beside gr_besideBits ++ (w_X4 G nw_o nw_Aheight nw_Adrops nw_height nw_drops nw_hours nw_restless ++ (w_X4 G la_o la_Aheight la_Adrops la_height_6 la_drops_7 la_hours_8 la_restless_9 ++ w_X2 G ss_o ss_Astate ss_Awaiting ss_state_10 ss_waiting_11 ss_waits_12 ss_cells_13 ss_many_14)))) rfl 0 rfl rfl rfl [] rfl (Nat.le_of_ble_eq_true rfl) ⟨Nat.le_of_ble_eq_true rfl, Nat.le_of_ble_eq_true rfl⟩ ⟨rfl, rfl⟩ ⟨Nat.zero_le _, Nat.zero_le _⟩ (fun hF => ?_)
          obtain ⟨hb_r5, h_la_height_6, h_la_drops_7, h_la_hours_8, h_ss_state_10, h_ss_waiting_11, h_ss_waits_12, h_ss_cells_13, h_ss_many_14, -⟩ := hF
          refine z_if_ne (tgt := 35) C (z_n01 hb_r5) dX5_join_30 (by decide) (fun c16 => ?_) (fun c16 => ?_)
          · have hm := z_pos c16 hm
            obtain ⟨c17, hm⟩ := z_chk_some hm
            refine z_iinc C dX5_join_35 3 rfl (by decide) (L' := [(3, z_i (v3_1 + 1)), (0, .ref m_o), (1, z_i x1), (2, z_i x2)]) rfl ?_
            refine z_goto (tgt := 13) C dX5_join_38 (by decide) ?_
            refine z_sub (L' := [(0, .ref m_o), (1, z_i x1), (2, z_i x2), (3, z_i (v3_1 + 1))]) [1, 2, 3, 0] rfl ?_
            exact ih1 (v3_1 + 1) la_height_6 la_drops_7 la_hours_8 la_restless_9 ss_state_10 ss_waiting_11 ss_waits_12 ss_cells_13 ss_many_14 c17 h_la_height_6 h_la_drops_7 h_la_hours_8 h_ss_state_10 h_ss_waiting_11 h_ss_waits_12 h_ss_cells_13 h_ss_many_14 hm
          · have hm := z_neg c16 hm
            refine z_iload_n C dX5_join_33 3 rfl ?_
            cases hm
            exact z_iret C E dX5_join_34 ⟨rfl, rfl, h_v3_1, h_la_height_6, h_la_drops_7, h_la_hours_8, h_ss_state_10, h_ss_waiting_11, h_ss_waits_12, h_ss_cells_13, h_ss_many_14, trivial⟩
    refine z_sub (L' := [(0, .ref m_o), (1, z_i x1), (2, z_i x2), (3, z_i 0)]) [1, 2, 3, 0] rfl ?_
    exact L1 N 0 la_height la_drops la_hours la_restless ss_state ss_waiting ss_waits ss_cells ss_many (z_k 0 rfl) h_la_height h_la_drops h_la_hours h_ss_state h_ss_waiting h_ss_waits h_ss_cells h_ss_many hm
  · have hm := z_neg c3 hm
    refine z_iconst C dX5_join_9 ?_
    cases hm
    exact z_iret C E dX5_join_10 ⟨rfl, rfl, (z_k (-1) rfl), h_la_height, h_la_drops, h_la_hours, h_ss_state, h_ss_waiting, h_ss_waits, h_ss_cells, h_ss_many, trivial⟩
set_option maxRecDepth 100000 in
theorem k_X5_part (l : Launch) (G : z_G) (N : Nat) (m_o tx_o gr_o nw_o og_o la_o ss_o un_o kp_o m_AringCell m_AringDrops gr_Akind gr_Abeside gr_AbesideBits nw_Aheight nw_Adrops la_Aheight la_Adrops ss_Astate ss_Awaiting : Nat) (m_ringCell : (Int → Int)) (m_ringDrops : (Int → Int)) (m_rings : Int) (gr_rows : Int) (gr_columns : Int) (gr_cells : Int) (gr_kind : (Int → Int)) (gr_beside : (Int → Int)) (gr_besideBits : (Int → Int64)) (nw_height : (Int → Int)) (nw_drops : (Int → Int)) (nw_hours : Int) (nw_restless : Int64) (la_height : (Int → Int)) (la_drops : (Int → Int)) (la_hours : Int) (la_restless : Int64) (ss_state : (Int → Int)) (ss_waiting : (Int → Int)) (ss_waits : Int) (ss_cells : Int) (ss_many : Int) (x1 : Int) (x2 : Int) (h_m_ringCell : z_r m_ringCell) (h_m_ringDrops : z_r m_ringDrops) (h_m_rings : z_n m_rings) (h_gr_rows : z_n gr_rows) (h_gr_columns : z_n gr_columns) (h_gr_cells : z_n gr_cells) (h_gr_kind : z_r gr_kind) (h_gr_beside : z_r gr_beside) (h_nw_height : z_r nw_height) (h_nw_drops : z_r nw_drops) (h_nw_hours : z_n nw_hours) (h_la_height : z_r la_height) (h_la_drops : z_r la_drops) (h_la_hours : z_n la_hours) (h_ss_state : z_r ss_state) (h_ss_waiting : z_r ss_waiting) (h_ss_waits : z_n ss_waits) (h_ss_cells : z_n ss_cells) (h_ss_many : z_n ss_many) (h_x1 : z_n x1) (h_x2 : z_n x2) (rr : Int) (q_la_height : (Int → Int)) (q_la_drops : (Int → Int)) (q_la_hours : Int) (q_la_restless : Int64) (q_ss_state : (Int → Int)) (q_ss_waiting : (Int → Int)) (q_ss_waits : Int) (q_ss_cells : Int) (q_ss_many : Int) (hm : m_X5_part N gr_cells gr_kind gr_beside gr_besideBits nw_height nw_drops nw_hours la_height la_drops la_hours la_restless ss_state ss_waiting ss_waits ss_cells ss_many x1 x2 = some (rr, q_la_height, q_la_drops, q_la_hours, q_la_restless, q_ss_state, q_ss_waiting, q_ss_waits, q_ss_cells, q_ss_many)) : z_M l G yX5_part cX5_part 4 (some .int) (k2_rm 7 156) [.ref m_o, z_i x1, z_i x2] (w_X5 G m_o tx_o gr_o nw_o og_o la_o ss_o un_o kp_o m_AringCell m_AringDrops m_ringCell m_ringDrops m_rings ++ (w_X0 G gr_o gr_Akind gr_Abeside gr_AbesideBits gr_rows gr_columns gr_cells gr_kind gr_beside gr_besideBits ++ (w_X4 G nw_o nw_Aheight nw_Adrops nw_height nw_drops nw_hours nw_restless ++ (w_X4 G la_o la_Aheight la_Adrops la_height la_drops la_hours la_restless ++ w_X2 G ss_o ss_Astate ss_Awaiting ss_state ss_waiting ss_waits ss_cells ss_many)))) 0 0 (fun v w => v = some (z_i rr) ∧ w = w_X5 G m_o tx_o gr_o nw_o og_o la_o ss_o un_o kp_o m_AringCell m_AringDrops m_ringCell m_ringDrops m_rings ++ (w_X0 G gr_o gr_Akind gr_Abeside gr_AbesideBits gr_rows gr_columns gr_cells gr_kind gr_beside gr_besideBits ++ (w_X4 G nw_o nw_Aheight nw_Adrops nw_height nw_drops nw_hours nw_restless ++ (w_X4 G la_o la_Aheight la_Adrops q_la_height q_la_drops q_la_hours q_la_restless ++ w_X2 G ss_o ss_Astate ss_Awaiting q_ss_state q_ss_waiting q_ss_waits q_ss_cells q_ss_many))) ∧ z_n rr ∧ z_r q_la_height ∧ z_r q_la_drops ∧ z_n q_la_hours ∧ z_r q_ss_state ∧ z_r q_ss_waiting ∧ z_n q_ss_waits ∧ z_n q_ss_cells ∧ z_n q_ss_many ∧ True) := by
  unfold m_X5_part at hm
  refine z_M.intro (by decide +kernel) (Nat.le_of_ble_eq_true rfl) (L := [(0, .ref m_o), (1, z_i x1), (2, z_i x2)]) rfl (fun X C E => ?_)
  refine z_aload_n C dX5_part_0 0 rfl ?_
  refine z_iload_n C dX5_part_1 1 rfl ?_
  refine z_iload_n C dX5_part_2 2 rfl ?_
  obtain ⟨r1, k2, hm⟩ := z_b1s hm
  refine z_callVi C (k_X5_areTwo l G N m_o tx_o gr_o nw_o og_o la_o ss_o un_o kp_o m_AringCell m_AringDrops gr_Akind gr_Abeside gr_AbesideBits m_ringCell m_ringDrops m_rings gr_rows gr_columns gr_cells gr_kind gr_beside gr_besideBits x1 x2 h_m_ringCell h_m_ringDrops h_m_rings h_gr_rows h_gr_columns h_gr_cells h_gr_kind h_gr_beside h_x1 h_x2 r1 k2) zv_X5_areTwo zl_X5_170 dX5_part_3 [0, 1, 2, 3, 4, 5, 6] rfl rfl rfl (ws' := w_X5 G m_o tx_o gr_o nw_o og_o la_o ss_o un_o kp_o m_AringCell m_AringDrops m_ringCell m_ringDrops m_rings ++ (w_X0 G gr_o gr_Akind gr_Abeside gr_AbesideBits gr_rows gr_columns gr_cells gr_kind gr_beside gr_besideBits ++ (w_X4 G nw_o nw_Aheight nw_Adrops nw_height nw_drops nw_hours nw_restless ++ (w_X4 G la_o la_Aheight la_Adrops la_height la_drops la_hours la_restless ++ w_X2 G ss_o ss_Astate ss_Awaiting ss_state ss_waiting ss_waits ss_cells ss_many)))) rfl 0 rfl rfl rfl [] rfl (Nat.le_of_ble_eq_true rfl) ⟨Nat.le_of_ble_eq_true rfl, Nat.le_of_ble_eq_true rfl⟩ ⟨rfl, rfl⟩ ⟨Nat.zero_le _, Nat.zero_le _⟩ (fun hF => ?_)
  obtain ⟨hb_r1, -⟩ := hF
  refine z_if_ne (tgt := 11) C (z_n01 hb_r1) dX5_part_6 (by decide) (fun c3 => ?_) (fun c3 => ?_)
  · have hm := z_pos c3 hm
    refine z_aload_n C dX5_part_11 0 rfl ?_
    refine z_get C zf_X5_41 dX5_part_12 0 rfl rfl ?_
    refine z_aload_n C dX5_part_15 0 rfl ?_
    refine z_get C zf_X5_21 dX5_part_16 0 rfl rfl ?_
    refine z_aload_n C dX5_part_19 0 rfl ?_
    refine z_get C zf_X5_28 dX5_part_20 0 rfl rfl ?_
    obtain ⟨ss_state_4, ss_waiting_5, ss_waits_6, ss_cells_7, ss_many_8, k9, hm⟩ := z_b5s hm
    refine z_callVv C (k_X2_map l G N ss_o ss_Astate ss_Awaiting gr_o gr_Akind gr_Abeside gr_AbesideBits nw_o nw_Aheight nw_Adrops ss_state ss_waiting ss_waits ss_cells ss_many gr_rows gr_columns gr_cells gr_kind gr_beside gr_besideBits nw_height nw_drops nw_hours nw_restless h_ss_state h_ss_waiting h_ss_waits h_ss_cells h_ss_many h_gr_rows h_gr_columns h_gr_cells h_gr_kind h_gr_beside h_nw_height h_nw_drops h_nw_hours ss_state_4 ss_waiting_5 ss_waits_6 ss_cells_7 ss_many_8 k9) zv_X2_map zl_X5_115 dX5_part_23 [13, 14, 15, 3, 4, 5, 6, 7, 8, 9] rfl rfl rfl (ws' := w_X5 G m_o tx_o gr_o nw_o og_o la_o ss_o un_o kp_o m_AringCell m_AringDrops m_ringCell m_ringDrops m_rings ++ (w_X0 G gr_o gr_Akind gr_Abeside gr_AbesideBits gr_rows gr_columns gr_cells gr_kind gr_beside gr_besideBits ++ (w_X4 G nw_o nw_Aheight nw_Adrops nw_height nw_drops nw_hours nw_restless ++ (w_X4 G la_o la_Aheight la_Adrops la_height la_drops la_hours la_restless ++ w_X2 G ss_o ss_Astate ss_Awaiting ss_state_4 ss_waiting_5 ss_waits_6 ss_cells_7 ss_many_8)))) rfl 13 rfl rfl rfl [] rfl (Nat.le_of_ble_eq_true rfl) ⟨Nat.le_of_ble_eq_true rfl, Nat.le_of_ble_eq_true rfl⟩ ⟨rfl, rfl⟩ ⟨Nat.zero_le _, Nat.zero_le _⟩ (fun hF => ?_)
    obtain ⟨h_ss_state_4, h_ss_waiting_5, h_ss_waits_6, h_ss_cells_7, h_ss_many_8, -⟩ := hF
    refine z_aload_n C dX5_part_26 0 rfl ?_
    refine z_get C zf_X5_41 dX5_part_27 0 rfl rfl ?_
    refine z_iload_n C dX5_part_30 1 rfl ?_
    refine z_iload_n C dX5_part_31 2 rfl ?_
    obtain ⟨r10, k11, hm⟩ := z_b1s hm
    refine z_callVi C (k_X2_apart l G N ss_o ss_Astate ss_Awaiting ss_state_4 ss_waiting_5 ss_waits_6 ss_cells_7 ss_many_8 x1 x2 h_ss_state_4 h_ss_waiting_5 h_ss_waits_6 h_ss_cells_7 h_ss_many_8 h_x1 h_x2 r10 k11) zv_X2_apart zl_X5_178 dX5_part_32 [13, 14, 15] rfl rfl rfl (ws' := w_X5 G m_o tx_o gr_o nw_o og_o la_o ss_o un_o kp_o m_AringCell m_AringDrops m_ringCell m_ringDrops m_rings ++ (w_X0 G gr_o gr_Akind gr_Abeside gr_AbesideBits gr_rows gr_columns gr_cells gr_kind gr_beside gr_besideBits ++ (w_X4 G nw_o nw_Aheight nw_Adrops nw_height nw_drops nw_hours nw_restless ++ (w_X4 G la_o la_Aheight la_Adrops la_height la_drops la_hours la_restless ++ w_X2 G ss_o ss_Astate ss_Awaiting ss_state_4 ss_waiting_5 ss_waits_6 ss_cells_7 ss_many_8)))) rfl 13 rfl rfl rfl [] rfl (Nat.le_of_ble_eq_true rfl) ⟨Nat.le_of_ble_eq_true rfl, Nat.le_of_ble_eq_true rfl⟩ ⟨rfl, rfl⟩ ⟨Nat.zero_le _, Nat.zero_le _⟩ (fun hF => ?_)
    obtain ⟨hb_r10, -⟩ := hF
    refine z_if_eq (tgt := 41) C (z_n01 hb_r10) dX5_part_35 (by decide) (fun c12 => ?_) (fun c12 => ?_)
    · have hm := z_pos c12 hm
      refine z_aload_n C dX5_part_41 0 rfl ?_
      refine z_get C zf_X5_35 dX5_part_42 0 rfl rfl ?_
      refine z_aload_n C dX5_part_45 0 rfl ?_
      refine z_get C zf_X5_28 dX5_part_46 0 rfl rfl ?_
      obtain ⟨la_height_13, la_drops_14, la_hours_15, k16, hm⟩ := z_b3s hm
      refine z_callVv C (k_X4_copyFrom l G N la_o la_Aheight la_Adrops nw_o nw_Aheight nw_Adrops la_height la_drops la_hours la_restless nw_height nw_drops nw_hours nw_restless h_la_height h_la_drops h_la_hours h_nw_height h_nw_drops h_nw_hours la_height_13 la_drops_14 la_hours_15 k16) zv_X4_copyFrom zl_X5_164 dX5_part_49 [10, 11, 12, 7, 8, 9] rfl rfl rfl (ws' := w_X5 G m_o tx_o gr_o nw_o og_o la_o ss_o un_o kp_o m_AringCell m_AringDrops m_ringCell m_ringDrops m_rings ++ (w_X0 G gr_o gr_Akind gr_Abeside gr_AbesideBits gr_rows gr_columns gr_cells gr_kind gr_beside gr_besideBits ++ (w_X4 G nw_o nw_Aheight nw_Adrops nw_height nw_drops nw_hours nw_restless ++ (w_X4 G la_o la_Aheight la_Adrops la_height_13 la_drops_14 la_hours_15 la_restless ++ w_X2 G ss_o ss_Astate ss_Awaiting ss_state_4 ss_waiting_5 ss_waits_6 ss_cells_7 ss_many_8)))) rfl 10 rfl rfl rfl [] rfl (Nat.le_of_ble_eq_true rfl) ⟨Nat.le_of_ble_eq_true rfl, Nat.le_of_ble_eq_true rfl⟩ ⟨rfl, rfl⟩ ⟨Nat.zero_le _, Nat.zero_le _⟩ (fun hF => ?_)
      obtain ⟨h_la_height_13, h_la_drops_14, h_la_hours_15, -⟩ := hF
      refine z_iconst C dX5_part_52 ?_
      refine z_istore_n C dX5_part_53 (by decide) (L' := [(3, z_i 1), (0, .ref m_o), (1, z_i x1), (2, z_i x2)]) rfl ?_
      have L1 : ∀ (n1 : Nat) (v3_1 : Int) (la_drops_1 : (Int → Int)) (la_hours_1 : Int) (la_restless_1 : Int64) (ss_state_1 : (Int → Int)) (ss_waiting_1 : (Int → Int)) (ss_waits_1 : Int) (ss_cells_1 : Int) (ss_many_1 : Int), z_n v3_1 → z_r la_drops_1 → z_n la_hours_1 → z_r ss_state_1 → z_r ss_waiting_1 → z_n ss_waits_1 → z_n ss_cells_1 → z_n ss_many_1 → m_X5_part_l1 N la_height_13 gr_cells gr_kind gr_beside gr_besideBits x1 x2 n1 v3_1 la_drops_1 la_hours_1 la_restless_1 ss_state_1 ss_waiting_1 ss_waits_1 ss_cells_1 ss_many_1 = some (rr, q_la_height, q_la_drops, q_la_hours, q_la_restless, q_ss_state, q_ss_waiting, q_ss_waits, q_ss_cells, q_ss_many) → z_J X 0 0 (w_X5 G m_o tx_o gr_o nw_o og_o la_o ss_o un_o kp_o m_AringCell m_AringDrops m_ringCell m_ringDrops m_rings ++ (w_X0 G gr_o gr_Akind gr_Abeside gr_AbesideBits gr_rows gr_columns gr_cells gr_kind gr_beside gr_besideBits ++ (w_X4 G nw_o nw_Aheight nw_Adrops nw_height nw_drops nw_hours nw_restless ++ (w_X4 G la_o la_Aheight la_Adrops la_height_13 la_drops_1 la_hours_1 la_restless_1 ++ w_X2 G ss_o ss_Astate ss_Awaiting ss_state_1 ss_waiting_1 ss_waits_1 ss_cells_1 ss_many_1)))) [(0, .ref m_o), (1, z_i x1), (2, z_i x2), (3, z_i v3_1)] 54 [] := by
        clear hm
        intro n1
        induction n1 with
        | zero =>
          intro v3_1 la_drops_1 la_hours_1 la_restless_1 ss_state_1 ss_waiting_1 ss_waits_1 ss_cells_1 ss_many_1 h_v3_1 h_la_drops_1 h_la_hours_1 h_ss_state_1 h_ss_waiting_1 h_ss_waits_1 h_ss_cells_1 h_ss_many_1 hm
          rw [m_X5_part_l1] at hm
          cases hm
        | succ n1 ih1 =>
          intro v3_1 la_drops_1 la_hours_1 la_restless_1 ss_state_1 ss_waiting_1 ss_waits_1 ss_cells_1 ss_many_1 h_v3_1 h_la_drops_1 h_la_hours_1 h_ss_state_1 h_ss_waiting_1 h_ss_waits_1 h_ss_cells_1 h_ss_many_1 hm
          rw [m_X5_part_l1] at hm
          refine z_iload_n C dX5_part_54 3 rfl ?_
          refine z_bipush C dX5_part_55 (by decide) ?_
          refine z_icmp_gt (tgt := 107) C h_v3_1 (z_k 60 rfl) dX5_part_57 (by decide) (fun c17 => ?_) (fun c17 => ?_)
          · have hm := z_pos c17 hm
            refine z_bipush C dX5_part_107 (by decide) ?_
            cases hm
            exact z_iret C E dX5_part_109 ⟨rfl, rfl, (z_k (-4) rfl), h_la_height_13, h_la_drops_1, h_la_hours_1, h_ss_state_1, h_ss_waiting_1, h_ss_waits_1, h_ss_cells_1, h_ss_many_1, trivial⟩
          · have hm := z_neg c17 hm
            refine z_aload_n C dX5_part_60 0 rfl ?_
            refine z_get C zf_X5_35 dX5_part_61 0 rfl rfl ?_
            refine z_aload_n C dX5_part_64 0 rfl ?_
            refine z_get C zf_X5_21 dX5_part_65 0 rfl rfl ?_
            refine z_iconst C dX5_part_68 ?_
            obtain ⟨la_drops_18, la_hours_19, la_restless_20, k21, hm⟩ := z_b3s hm
            refine z_callVv C (k_X4_passHours l G N la_o la_Aheight la_Adrops gr_o gr_Akind gr_Abeside gr_AbesideBits la_height_13 la_drops_1 la_hours_1 la_restless_1 gr_rows gr_columns gr_cells gr_kind gr_beside gr_besideBits 1 h_la_height_13 h_la_drops_1 h_la_hours_1 h_gr_rows h_gr_columns h_gr_cells h_gr_kind h_gr_beside (z_k 1 rfl) la_drops_18 la_hours_19 la_restless_20 k21) zv_X4_passHours zl_X5_142 dX5_part_69 [10, 11, 12, 3, 4, 5, 6] rfl rfl rfl (ws' := w_X5 G m_o tx_o gr_o nw_o og_o la_o ss_o un_o kp_o m_AringCell m_AringDrops m_ringCell m_ringDrops m_rings ++ (w_X0 G gr_o gr_Akind gr_Abeside gr_AbesideBits gr_rows gr_columns gr_cells gr_kind gr_beside gr_besideBits ++ (w_X4 G nw_o nw_Aheight nw_Adrops nw_height nw_drops nw_hours nw_restless ++ (w_X4 G la_o la_Aheight la_Adrops la_height_13 la_drops_18 la_hours_19 la_restless_20 ++ w_X2 G ss_o ss_Astate ss_Awaiting ss_state_1 ss_waiting_1 ss_waits_1 ss_cells_1 ss_many_1)))) rfl 10 rfl rfl rfl [] rfl (Nat.le_of_ble_eq_true rfl) ⟨Nat.le_of_ble_eq_true rfl, Nat.le_of_ble_eq_true rfl⟩ ⟨rfl, rfl⟩ ⟨Nat.zero_le _, Nat.zero_le _⟩ (fun hF => ?_)
            obtain ⟨h_la_drops_18, h_la_hours_19, -⟩ := hF
            refine z_aload_n C dX5_part_72 0 rfl ?_
            refine z_get C zf_X5_41 dX5_part_73 0 rfl rfl ?_
            refine z_aload_n C dX5_part_76 0 rfl ?_
            refine z_get C zf_X5_21 dX5_part_77 0 rfl rfl ?_
            refine z_aload_n C dX5_part_80 0 rfl ?_
            refine z_get C zf_X5_35 dX5_part_81 0 rfl rfl ?_
            obtain ⟨ss_state_22, ss_waiting_23, ss_waits_24, ss_cells_25, ss_many_26, k27, hm⟩ := z_b5s hm
            refine z_callVv C (k_X2_map l G N ss_o ss_Astate ss_Awaiting gr_o gr_Akind gr_Abeside gr_AbesideBits la_o la_Aheight la_Adrops ss_state_1 ss_waiting_1 ss_waits_1 ss_cells_1 ss_many_1 gr_rows gr_columns gr_cells gr_kind gr_beside gr_besideBits la_height_13 la_drops_18 la_hours_19 la_restless_20 h_ss_state_1 h_ss_waiting_1 h_ss_waits_1 h_ss_cells_1 h_ss_many_1 h_gr_rows h_gr_columns h_gr_cells h_gr_kind h_gr_beside h_la_height_13 h_la_drops_18 h_la_hours_19 ss_state_22 ss_waiting_23 ss_waits_24 ss_cells_25 ss_many_26 k27) zv_X2_map zl_X5_115 dX5_part_84 [13, 14, 15, 3, 4, 5, 6, 10, 11, 12] rfl rfl rfl (ws' := w_X5 G m_o tx_o gr_o nw_o og_o la_o ss_o un_o kp_o m_AringCell m_AringDrops m_ringCell m_ringDrops m_rings ++ (w_X0 G gr_o gr_Akind gr_Abeside gr_AbesideBits gr_rows gr_columns gr_cells gr_kind gr_beside gr_besideBits ++ (w_X4 G nw_o nw_Aheight nw_Adrops nw_height nw_drops nw_hours nw_restless ++ (w_X4 G la_o la_Aheight la_Adrops la_height_13 la_drops_18 la_hours_19 la_restless_20 ++ w_X2 G ss_o ss_Astate ss_Awaiting ss_state_22 ss_waiting_23 ss_waits_24 ss_cells_25 ss_many_26)))) rfl 13 rfl rfl rfl [] rfl (Nat.le_of_ble_eq_true rfl) ⟨Nat.le_of_ble_eq_true rfl, Nat.le_of_ble_eq_true rfl⟩ ⟨rfl, rfl⟩ ⟨Nat.zero_le _, Nat.zero_le _⟩ (fun hF => ?_)
            obtain ⟨h_ss_state_22, h_ss_waiting_23, h_ss_waits_24, h_ss_cells_25, h_ss_many_26, -⟩ := hF
            refine z_aload_n C dX5_part_87 0 rfl ?_
            refine z_get C zf_X5_41 dX5_part_88 0 rfl rfl ?_
            refine z_iload_n C dX5_part_91 1 rfl ?_
            refine z_iload_n C dX5_part_92 2 rfl ?_
            obtain ⟨r28, k29, hm⟩ := z_b1s hm
            refine z_callVi C (k_X2_apart l G N ss_o ss_Astate ss_Awaiting ss_state_22 ss_waiting_23 ss_waits_24 ss_cells_25 ss_many_26 x1 x2 h_ss_state_22 h_ss_waiting_23 h_ss_waits_24 h_ss_cells_25 h_ss_many_26 h_x1 h_x2 r28 k29) zv_X2_apart zl_X5_178 dX5_part_93 [13, 14, 15] rfl rfl rfl (ws' := w_X5 G m_o tx_o gr_o nw_o og_o la_o ss_o un_o kp_o m_AringCell m_AringDrops m_ringCell m_ringDrops m_rings ++ (w_X0 G gr_o gr_Akind gr_Abeside gr_AbesideBits gr_rows gr_columns gr_cells gr_kind gr_beside gr_besideBits ++ (w_X4 G nw_o nw_Aheight nw_Adrops nw_height nw_drops nw_hours nw_restless ++ (w_X4 G la_o la_Aheight la_Adrops la_height_13 la_drops_18 la_hours_19 la_restless_20 ++ w_X2 G ss_o ss_Astate ss_Awaiting ss_state_22 ss_waiting_23 ss_waits_24 ss_cells_25 ss_many_26)))) rfl 13 rfl rfl rfl [] rfl (Nat.le_of_ble_eq_true rfl) ⟨Nat.le_of_ble_eq_true rfl, Nat.le_of_ble_eq_true rfl⟩ ⟨rfl, rfl⟩ ⟨Nat.zero_le _, Nat.zero_le _⟩ (fun hF => ?_)
            obtain ⟨hb_r28, -⟩ := hF
            refine z_if_eq (tgt := 101) C (z_n01 hb_r28) dX5_part_96 (by decide) (fun c30 => ?_) (fun c30 => ?_)
            · have hm := z_pos c30 hm
              obtain ⟨c31, hm⟩ := z_chk_some hm
              refine z_iinc C dX5_part_101 3 rfl (by decide) (L' := [(3, z_i (v3_1 + 1)), (0, .ref m_o), (1, z_i x1), (2, z_i x2)]) rfl ?_
              refine z_goto (tgt := 54) C dX5_part_104 (by decide) ?_
              refine z_sub (L' := [(0, .ref m_o), (1, z_i x1), (2, z_i x2), (3, z_i (v3_1 + 1))]) [1, 2, 3, 0] rfl ?_
              exact ih1 (v3_1 + 1) la_drops_18 la_hours_19 la_restless_20 ss_state_22 ss_waiting_23 ss_waits_24 ss_cells_25 ss_many_26 c31 h_la_drops_18 h_la_hours_19 h_ss_state_22 h_ss_waiting_23 h_ss_waits_24 h_ss_cells_25 h_ss_many_26 hm
            · have hm := z_neg c30 hm
              refine z_iload_n C dX5_part_99 3 rfl ?_
              cases hm
              exact z_iret C E dX5_part_100 ⟨rfl, rfl, h_v3_1, h_la_height_13, h_la_drops_18, h_la_hours_19, h_ss_state_22, h_ss_waiting_23, h_ss_waits_24, h_ss_cells_25, h_ss_many_26, trivial⟩
      refine z_sub (L' := [(0, .ref m_o), (1, z_i x1), (2, z_i x2), (3, z_i 1)]) [1, 2, 3, 0] rfl ?_
      exact L1 N 1 la_drops_14 la_hours_15 la_restless ss_state_4 ss_waiting_5 ss_waits_6 ss_cells_7 ss_many_8 (z_k 1 rfl) h_la_drops_14 h_la_hours_15 h_ss_state_4 h_ss_waiting_5 h_ss_waits_6 h_ss_cells_7 h_ss_many_8 hm
    · have hm := z_neg c12 hm
      refine z_bipush C dX5_part_38 (by decide) ?_
      cases hm
      exact z_iret C E dX5_part_40 ⟨rfl, rfl, (z_k (-2) rfl), h_la_height, h_la_drops, h_la_hours, h_ss_state_4, h_ss_waiting_5, h_ss_waits_6, h_ss_cells_7, h_ss_many_8, trivial⟩
  · have hm := z_neg c3 hm
    refine z_iconst C dX5_part_9 ?_
    cases hm
    exact z_iret C E dX5_part_10 ⟨rfl, rfl, (z_k (-1) rfl), h_la_height, h_la_drops, h_la_hours, h_ss_state, h_ss_waiting, h_ss_waits, h_ss_cells, h_ss_many, trivial⟩
set_option maxRecDepth 100000 in
theorem k_X0_withBeside (l : Launch) (G : z_G) (N : Nat) (t_o t_Akind t_Abeside t_AbesideBits : Nat) (t_rows : Int) (t_columns : Int) (t_cells : Int) (t_kind : (Int → Int)) (t_beside : (Int → Int)) (t_besideBits : (Int → Int64)) (x1 : Int64) (h_t_rows : z_n t_rows) (h_t_columns : z_n t_columns) (h_t_cells : z_n t_cells) (h_t_kind : z_r t_kind) (h_t_beside : z_r t_beside) (rr : Int64) (hm : m_X0_withBeside N t_cells t_besideBits x1 = some (rr)) : z_M l G yX0_withBeside cX0_withBeside 6 (some .long) (k2_rm 0 0) [.ref t_o, .long x1] (w_X0 G t_o t_Akind t_Abeside t_AbesideBits t_rows t_columns t_cells t_kind t_beside t_besideBits) 0 0 (fun v w => v = some (.long rr) ∧ w = w_X0 G t_o t_Akind t_Abeside t_AbesideBits t_rows t_columns t_cells t_kind t_beside t_besideBits ∧ True) := by
  unfold m_X0_withBeside at hm
  refine z_M.intro (by decide +kernel) (Nat.le_of_ble_eq_true rfl) (L := [(0, .ref t_o), (1, .long x1)]) rfl (fun X C E => ?_)
  refine z_lload_n C dX0_withBeside_0 1 rfl ?_
  refine z_lstore_n C dX0_withBeside_1 (by decide) (L' := [(3, .long x1), (0, .ref t_o), (1, .long x1)]) rfl ?_
  refine z_iconst C dX0_withBeside_2 ?_
  refine z_istore C dX0_withBeside_3 (by decide) (L' := [(5, z_i 0), (3, .long x1), (0, .ref t_o), (1, .long x1)]) rfl ?_
  obtain ⟨o3_1, hl, hm⟩ := z_b1s hm
  have JX1 : z_J X 0 0 (w_X0 G t_o t_Akind t_Abeside t_AbesideBits t_rows t_columns t_cells t_kind t_beside t_besideBits) [(3, .long o3_1)] 48 [] := by
    clear hl
    refine z_lload_n C dX0_withBeside_48 0 rfl ?_
    cases hm
    exact z_lret C E dX0_withBeside_49 ⟨rfl, rfl, trivial⟩
  clear hm
  have L1 : ∀ (n1 : Nat) (v3_1 : Int64) (v5_1 : Int), z_n v5_1 → m_X0_withBeside_l1 N t_cells x1 t_besideBits n1 v3_1 v5_1 = some (o3_1) → z_J X 0 0 (w_X0 G t_o t_Akind t_Abeside t_AbesideBits t_rows t_columns t_cells t_kind t_beside t_besideBits) [(0, .ref t_o), (1, .long x1), (3, .long v3_1), (5, z_i v5_1)] 5 [] := by
    clear hl
    intro n1
    induction n1 with
    | zero =>
      intro v3_1 v5_1 h_v5_1 hm
      rw [m_X0_withBeside_l1] at hm
      cases hm
    | succ n1 ih1 =>
      intro v3_1 v5_1 h_v5_1 hm
      rw [m_X0_withBeside_l1] at hm
      refine z_iload C dX0_withBeside_5 3 rfl ?_
      refine z_aload_n C dX0_withBeside_7 0 rfl ?_
      refine z_get C zf_X0_18 dX0_withBeside_8 0 rfl rfl ?_
      refine z_icmp_ge (tgt := 48) C h_v5_1 h_t_cells dX0_withBeside_11 (by decide) (fun c1 => ?_) (fun c1 => ?_)
      · have hm := z_pos c1 hm
        refine z_sub (L' := [(3, .long v3_1)]) [2] rfl ?_
        cases hm
        exact JX1
      · have hm := z_neg c1 hm
        refine z_iload C dX0_withBeside_14 3 rfl ?_
        refine z_bipush C dX0_withBeside_16 (by decide) ?_
        refine z_icmp_ge (tgt := 48) C h_v5_1 (z_k 36 rfl) dX0_withBeside_18 (by decide) (fun c2 => ?_) (fun c2 => ?_)
        · have hm := z_pos c2 hm
          refine z_sub (L' := [(3, .long v3_1)]) [2] rfl ?_
          cases hm
          exact JX1
        · have hm := z_neg c2 hm
          refine z_lload_n C dX0_withBeside_21 1 rfl ?_
          refine z_iload C dX0_withBeside_22 3 rfl ?_
          refine z_lshrR C dX0_withBeside_24 ?_
          refine z_lconst (v := (1 : Int64)) C dX0_withBeside_25 (by decide) ?_
          refine z_land C dX0_withBeside_26 ?_
          refine z_lconst (v := (1 : Int64)) C dX0_withBeside_27 (by decide) ?_
          refine z_lcmpR C dX0_withBeside_28 ?_
          refine z_if_ne (tgt := 42) C (z_n_lcmp ((z_lshr x1 v5_1) &&& (1 : Int64)) (1 : Int64)) dX0_withBeside_29 (by decide) (fun c3 => ?_) (fun c3 => ?_)
          · have hm := z_pos c3 hm
            obtain ⟨c4, hm⟩ := z_chk_some hm
            refine z_iinc C dX0_withBeside_42 3 rfl (by decide) (L' := [(5, z_i (v5_1 + 1)), (0, .ref t_o), (1, .long x1), (3, .long v3_1)]) rfl ?_
            refine z_goto (tgt := 5) C dX0_withBeside_45 (by decide) ?_
            refine z_sub (L' := [(0, .ref t_o), (1, .long x1), (3, .long v3_1), (5, z_i (v5_1 + 1))]) [1, 2, 3, 0] rfl ?_
            exact ih1 v3_1 (v5_1 + 1) c4 hm
          · have hm := z_neg c3 hm
            refine z_lload_n C dX0_withBeside_32 2 rfl ?_
            refine z_aload_n C dX0_withBeside_33 0 rfl ?_
            refine z_get C zf_X0_28 dX0_withBeside_34 0 rfl rfl ?_
            refine z_iload C dX0_withBeside_37 3 rfl ?_
            obtain ⟨c5, hm⟩ := z_chk_some hm
            refine z_lald C dX0_withBeside_39 3 rfl c5 h_v5_1 ?_
            refine z_lor C dX0_withBeside_40 ?_
            refine z_lstore_n C dX0_withBeside_41 (by decide) (L' := [(3, .long (v3_1 ||| (t_besideBits v5_1))), (0, .ref t_o), (1, .long x1), (5, z_i v5_1)]) rfl ?_
            obtain ⟨c6, hm⟩ := z_chk_some hm
            refine z_iinc C dX0_withBeside_42 3 rfl (by decide) (L' := [(5, z_i (v5_1 + 1)), (3, .long (v3_1 ||| (t_besideBits v5_1))), (0, .ref t_o), (1, .long x1)]) rfl ?_
            refine z_goto (tgt := 5) C dX0_withBeside_45 (by decide) ?_
            refine z_sub (L' := [(0, .ref t_o), (1, .long x1), (3, .long (v3_1 ||| (t_besideBits v5_1))), (5, z_i (v5_1 + 1))]) [2, 3, 1, 0] rfl ?_
            exact ih1 (v3_1 ||| (t_besideBits v5_1)) (v5_1 + 1) c6 hm
  refine z_sub (L' := [(0, .ref t_o), (1, .long x1), (3, .long x1), (5, z_i 0)]) [2, 3, 1, 0] rfl ?_
  exact L1 N x1 0 (z_k 0 rfl) hl
