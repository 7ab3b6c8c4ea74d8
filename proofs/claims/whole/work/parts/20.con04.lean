set_option maxRecDepth 100000 in
theorem k_X5_write (l : Launch) (G : z_G) (N : Nat) (m_o tx_o gr_o nw_o og_o la_o ss_o un_o kp_o m_AringCell m_AringDrops tx_Aletters : Nat) (m_ringCell : (Int → Int)) (m_ringDrops : (Int → Int)) (m_rings : Int) (tx_letters : (Int → Int)) (tx_length : Int) (tx_at : Int) (x1 : Int) (h_m_ringCell : z_r m_ringCell) (h_m_ringDrops : z_r m_ringDrops) (h_m_rings : z_n m_rings) (h_tx_letters : z_r tx_letters) (h_tx_length : z_n tx_length) (h_tx_at : z_n tx_at) (h_x1 : z_n x1) (rr : Int) (q_tx_letters : (Int → Int)) (q_tx_length : Int) (hm : m_X5_write N tx_letters tx_length x1 = some (rr, q_tx_letters, q_tx_length)) : z_M l G yX5_write cX5_write 2 (some .int) (k2_rm 1 21) [.ref m_o, z_i x1] (w_X5 G m_o tx_o gr_o nw_o og_o la_o ss_o un_o kp_o m_AringCell m_AringDrops m_ringCell m_ringDrops m_rings ++ w_X3 G tx_o tx_Aletters tx_letters tx_length tx_at) 0 0 (fun v w => v = some (z_i rr) ∧ w = w_X5 G m_o tx_o gr_o nw_o og_o la_o ss_o un_o kp_o m_AringCell m_AringDrops m_ringCell m_ringDrops m_rings ++ w_X3 G tx_o tx_Aletters q_tx_letters q_tx_length tx_at ∧ z_n rr ∧ z_r q_tx_letters ∧ z_n q_tx_length ∧ True) := by
  unfold m_X5_write at hm
  refine z_M.intro (by decide +kernel) (Nat.le_of_ble_eq_true rfl) (L := [(0, .ref m_o), (1, z_i x1)]) rfl (fun X C E => ?_)
  refine z_iload_n C dX5_write_0 1 rfl ?_
  refine z_bipush C dX5_write_1 (by decide) ?_
  refine z_icmp_lt (tgt := 12) C h_x1 (z_k 32 rfl) dX5_write_3 (by decide) (fun c1 => ?_) (fun c1 => ?_)
  · have hm := z_pos c1 hm
    refine z_iconst C dX5_write_12 ?_
    cases hm
    exact z_iret C E dX5_write_13 ⟨rfl, rfl, (z_k (-1) rfl), h_tx_letters, h_tx_length, trivial⟩
  · have hm := z_neg c1 hm
    refine z_iload_n C dX5_write_6 1 rfl ?_
    refine z_bipush C dX5_write_7 (by decide) ?_
    refine z_icmp_le (tgt := 14) C h_x1 (z_k 126 rfl) dX5_write_9 (by decide) (fun c2 => ?_) (fun c2 => ?_)
    · have hm := z_pos c2 hm
      refine z_aload_n C dX5_write_14 0 rfl ?_
      refine z_get C zf_X5_14 dX5_write_15 0 rfl rfl ?_
      refine z_get C zf_X5_89 dX5_write_18 3 rfl rfl ?_
      refine z_sipush C dX5_write_21 (by decide) ?_
      refine z_icmp_lt (tgt := 30) C h_tx_length (z_k 200 rfl) dX5_write_24 (by decide) (fun c3 => ?_) (fun c3 => ?_)
      · have hm := z_pos c3 hm
        refine z_aload_n C dX5_write_30 0 rfl ?_
        refine z_get C zf_X5_14 dX5_write_31 0 rfl rfl ?_
        refine z_iload_n C dX5_write_34 1 rfl ?_
        refine z_i2cR C dX5_write_35 ?_
        obtain ⟨tx_letters_4, tx_length_5, k6, hm⟩ := z_b2s hm
        refine z_callVv C (k_X3_add l G N tx_o tx_Aletters tx_letters tx_length tx_at (z_i2c x1) h_tx_letters h_tx_length h_tx_at (z_n_i2c x1) tx_letters_4 tx_length_5 k6) zv_X3_add zl_X5_78 dX5_write_36 [3, 4] rfl rfl rfl (ws' := w_X5 G m_o tx_o gr_o nw_o og_o la_o ss_o un_o kp_o m_AringCell m_AringDrops m_ringCell m_ringDrops m_rings ++ w_X3 G tx_o tx_Aletters tx_letters_4 tx_length_5 tx_at) rfl 3 rfl rfl rfl [] rfl (Nat.le_of_ble_eq_true rfl) ⟨Nat.le_of_ble_eq_true rfl, Nat.le_of_ble_eq_true rfl⟩ ⟨rfl, rfl⟩ ⟨Nat.zero_le _, Nat.zero_le _⟩ (fun hF => ?_)
        obtain ⟨h_tx_letters_4, h_tx_length_5, -⟩ := hF
        refine z_aload_n C dX5_write_39 0 rfl ?_
        refine z_get C zf_X5_14 dX5_write_40 0 rfl rfl ?_
        refine z_get C zf_X5_89 dX5_write_43 3 rfl rfl ?_
        cases hm
        exact z_iret C E dX5_write_46 ⟨rfl, rfl, h_tx_length_5, h_tx_letters_4, h_tx_length_5, trivial⟩
      · have hm := z_neg c3 hm
        refine z_bipush C dX5_write_27 (by decide) ?_
        cases hm
        exact z_iret C E dX5_write_29 ⟨rfl, rfl, (z_k (-3) rfl), h_tx_letters, h_tx_length, trivial⟩
    · have hm := z_neg c2 hm
      refine z_iconst C dX5_write_12 ?_
      cases hm
      exact z_iret C E dX5_write_13 ⟨rfl, rfl, (z_k (-1) rfl), h_tx_letters, h_tx_length, trivial⟩
set_option maxRecDepth 100000 in
theorem k_X5_wipe (l : Launch) (G : z_G) (N : Nat) (m_o tx_o gr_o nw_o og_o la_o ss_o un_o kp_o m_AringCell m_AringDrops tx_Aletters : Nat) (m_ringCell : (Int → Int)) (m_ringDrops : (Int → Int)) (m_rings : Int) (tx_letters : (Int → Int)) (tx_length : Int) (tx_at : Int) (h_m_ringCell : z_r m_ringCell) (h_m_ringDrops : z_r m_ringDrops) (h_m_rings : z_n m_rings) (h_tx_letters : z_r tx_letters) (h_tx_length : z_n tx_length) (h_tx_at : z_n tx_at) (rr : Int) (q_tx_length : Int) (hm : m_X5_wipe N tx_length = some (rr, q_tx_length)) : z_M l G yX5_wipe cX5_wipe 2 (some .int) (k2_rm 1 20) [.ref m_o] (w_X5 G m_o tx_o gr_o nw_o og_o la_o ss_o un_o kp_o m_AringCell m_AringDrops m_ringCell m_ringDrops m_rings ++ w_X3 G tx_o tx_Aletters tx_letters tx_length tx_at) 0 0 (fun v w => v = some (z_i rr) ∧ w = w_X5 G m_o tx_o gr_o nw_o og_o la_o ss_o un_o kp_o m_AringCell m_AringDrops m_ringCell m_ringDrops m_rings ++ w_X3 G tx_o tx_Aletters tx_letters q_tx_length tx_at ∧ z_n rr ∧ z_n q_tx_length ∧ True) := by
  unfold m_X5_wipe at hm
  refine z_M.intro (by decide +kernel) (Nat.le_of_ble_eq_true rfl) (L := [(0, .ref m_o)]) rfl (fun X C E => ?_)
  refine z_aload_n C dX5_wipe_0 0 rfl ?_
  refine z_get C zf_X5_14 dX5_wipe_1 0 rfl rfl ?_
  refine z_get C zf_X5_89 dX5_wipe_4 3 rfl rfl ?_
  refine z_istore_n C dX5_wipe_7 (by decide) (L' := [(1, z_i tx_length), (0, .ref m_o)]) rfl ?_
  refine z_aload_n C dX5_wipe_8 1 rfl ?_
  refine z_get C zf_X5_14 dX5_wipe_9 0 rfl rfl ?_
  obtain ⟨tx_length_1, k2, hm⟩ := z_b1s hm
  refine z_callVv C (k_X3_empty l G N tx_o tx_Aletters tx_letters tx_length tx_at h_tx_letters h_tx_length h_tx_at tx_length_1 k2) zv_X3_empty zl_X5_86 dX5_wipe_12 [3, 4] rfl rfl rfl (ws' := w_X5 G m_o tx_o gr_o nw_o og_o la_o ss_o un_o kp_o m_AringCell m_AringDrops m_ringCell m_ringDrops m_rings ++ w_X3 G tx_o tx_Aletters tx_letters tx_length_1 tx_at) rfl 3 rfl rfl rfl [] rfl (Nat.le_of_ble_eq_true rfl) ⟨Nat.le_of_ble_eq_true rfl, Nat.le_of_ble_eq_true rfl⟩ ⟨rfl, rfl⟩ ⟨Nat.zero_le _, Nat.zero_le _⟩ (fun hF => ?_)
  obtain ⟨h_tx_length_1, -⟩ := hF
  refine z_iload_n C dX5_wipe_15 0 rfl ?_
  cases hm
  exact z_iret C E dX5_wipe_16 ⟨rfl, rfl, h_tx_length, h_tx_length_1, trivial⟩
set_option maxRecDepth 100000 in
theorem k_X5_fault (l : Launch) (G : z_G) (N : Nat) (m_o tx_o gr_o nw_o og_o la_o ss_o un_o kp_o m_AringCell m_AringDrops tx_Aletters og_Akind og_Abeside og_AbesideBits la_Aheight la_Adrops : Nat) (m_ringCell : (Int → Int)) (m_ringDrops : (Int → Int)) (m_rings : Int) (tx_letters : (Int → Int)) (tx_length : Int) (tx_at : Int) (og_rows : Int) (og_columns : Int) (og_cells : Int) (og_kind : (Int → Int)) (og_beside : (Int → Int)) (og_besideBits : (Int → Int64)) (la_height : (Int → Int)) (la_drops : (Int → Int)) (la_hours : Int) (la_restless : Int64) (h_m_ringCell : z_r m_ringCell) (h_m_ringDrops : z_r m_ringDrops) (h_m_rings : z_n m_rings) (h_tx_letters : z_r tx_letters) (h_tx_length : z_n tx_length) (h_tx_at : z_n tx_at) (h_og_rows : z_n og_rows) (h_og_columns : z_n og_columns) (h_og_cells : z_n og_cells) (h_og_kind : z_r og_kind) (h_og_beside : z_r og_beside) (h_la_height : z_r la_height) (h_la_drops : z_r la_drops) (h_la_hours : z_n la_hours) (rr : Int) (q_tx_at : Int) (q_og_rows : Int) (q_og_columns : Int) (q_og_cells : Int) (q_og_kind : (Int → Int)) (q_og_beside : (Int → Int)) (q_og_besideBits : (Int → Int64)) (q_la_height : (Int → Int)) (q_la_drops : (Int → Int)) (q_la_hours : Int) (hm : m_X5_fault N tx_letters tx_length tx_at og_rows og_columns og_cells og_kind og_beside og_besideBits la_height la_drops la_hours = some (rr, q_tx_at, q_og_rows, q_og_columns, q_og_cells, q_og_kind, q_og_beside, q_og_besideBits, q_la_height, q_la_drops, q_la_hours)) : z_M l G yX5_fault cX5_fault 1 (some .int) (k2_rm 6 144) [.ref m_o] (w_X5 G m_o tx_o gr_o nw_o og_o la_o ss_o un_o kp_o m_AringCell m_AringDrops m_ringCell m_ringDrops m_rings ++ (w_X3 G tx_o tx_Aletters tx_letters tx_length tx_at ++ (w_X0 G og_o og_Akind og_Abeside og_AbesideBits og_rows og_columns og_cells og_kind og_beside og_besideBits ++ w_X4 G la_o la_Aheight la_Adrops la_height la_drops la_hours la_restless))) 0 0 (fun v w => v = some (z_i rr) ∧ w = w_X5 G m_o tx_o gr_o nw_o og_o la_o ss_o un_o kp_o m_AringCell m_AringDrops m_ringCell m_ringDrops m_rings ++ (w_X3 G tx_o tx_Aletters tx_letters tx_length q_tx_at ++ (w_X0 G og_o og_Akind og_Abeside og_AbesideBits q_og_rows q_og_columns q_og_cells q_og_kind q_og_beside q_og_besideBits ++ w_X4 G la_o la_Aheight la_Adrops q_la_height q_la_drops q_la_hours la_restless)) ∧ z_n rr ∧ z_n q_tx_at ∧ z_n q_og_rows ∧ z_n q_og_columns ∧ z_n q_og_cells ∧ z_r q_og_kind ∧ z_r q_og_beside ∧ z_r q_la_height ∧ z_r q_la_drops ∧ z_n q_la_hours ∧ True) := by
  unfold m_X5_fault at hm
  refine z_M.intro (by decide +kernel) (Nat.le_of_ble_eq_true rfl) (L := [(0, .ref m_o)]) rfl (fun X C E => ?_)
  refine z_aload_n C dX5_fault_0 0 rfl ?_
  refine z_get C zf_X5_14 dX5_fault_1 0 rfl rfl ?_
  refine z_aload_n C dX5_fault_4 0 rfl ?_
  refine z_get C zf_X5_32 dX5_fault_5 0 rfl rfl ?_
  refine z_aload_n C dX5_fault_8 0 rfl ?_
  refine z_get C zf_X5_35 dX5_fault_9 0 rfl rfl ?_
  obtain ⟨r1, tx_at_2, og_rows_3, og_columns_4, og_cells_5, og_kind_6, og_beside_7, og_besideBits_8, la_height_9, la_drops_10, la_hours_11, k12, hm⟩ := z_b11s hm
  refine z_callVi C (k_X3_readInto l G N tx_o tx_Aletters og_o og_Akind og_Abeside og_AbesideBits la_o la_Aheight la_Adrops tx_letters tx_length tx_at og_rows og_columns og_cells og_kind og_beside og_besideBits la_height la_drops la_hours la_restless h_tx_letters h_tx_length h_tx_at h_og_rows h_og_columns h_og_cells h_og_kind h_og_beside h_la_height h_la_drops h_la_hours r1 tx_at_2 og_rows_3 og_columns_4 og_cells_5 og_kind_6 og_beside_7 og_besideBits_8 la_height_9 la_drops_10 la_hours_11 k12) zv_X3_readInto zl_X5_91 dX5_fault_12 [3, 4, 5, 6, 7, 8, 9, 10, 11] rfl rfl rfl (ws' := w_X5 G m_o tx_o gr_o nw_o og_o la_o ss_o un_o kp_o m_AringCell m_AringDrops m_ringCell m_ringDrops m_rings ++ (w_X3 G tx_o tx_Aletters tx_letters tx_length tx_at_2 ++ (w_X0 G og_o og_Akind og_Abeside og_AbesideBits og_rows_3 og_columns_4 og_cells_5 og_kind_6 og_beside_7 og_besideBits_8 ++ w_X4 G la_o la_Aheight la_Adrops la_height_9 la_drops_10 la_hours_11 la_restless))) rfl 3 rfl rfl rfl [] rfl (Nat.le_of_ble_eq_true rfl) ⟨Nat.le_of_ble_eq_true rfl, Nat.le_of_ble_eq_true rfl⟩ ⟨rfl, rfl⟩ ⟨Nat.zero_le _, Nat.zero_le _⟩ (fun hF => ?_)
  obtain ⟨h_r1, h_tx_at_2, h_og_rows_3, h_og_columns_4, h_og_cells_5, h_og_kind_6, h_og_beside_7, h_la_height_9, h_la_drops_10, h_la_hours_11, -⟩ := hF
  cases hm
  exact z_iret C E dX5_fault_15 ⟨rfl, rfl, h_r1, h_tx_at_2, h_og_rows_3, h_og_columns_4, h_og_cells_5, h_og_kind_6, h_og_beside_7, h_la_height_9, h_la_drops_10, h_la_hours_11, trivial⟩
set_option maxRecDepth 100000 in
theorem k_X5_lay (l : Launch) (G : z_G) (N : Nat) (m_o tx_o gr_o nw_o og_o la_o ss_o un_o kp_o m_AringCell m_AringDrops tx_Aletters gr_Akind gr_Abeside gr_AbesideBits nw_Aheight nw_Adrops og_Akind og_Abeside og_AbesideBits la_Aheight la_Adrops un_Aheights un_Adrops un_Ahours kp_Aheights kp_Adrops kp_Ahours : Nat) (m_ringCell : (Int → Int)) (m_ringDrops : (Int → Int)) (m_rings : Int) (tx_letters : (Int → Int)) (tx_length : Int) (tx_at : Int) (gr_rows : Int) (gr_columns : Int) (gr_cells : Int) (gr_kind : (Int → Int)) (gr_beside : (Int → Int)) (gr_besideBits : (Int → Int64)) (nw_height : (Int → Int)) (nw_drops : (Int → Int)) (nw_hours : Int) (nw_restless : Int64) (og_rows : Int) (og_columns : Int) (og_cells : Int) (og_kind : (Int → Int)) (og_beside : (Int → Int)) (og_besideBits : (Int → Int64)) (la_height : (Int → Int)) (la_drops : (Int → Int)) (la_hours : Int) (la_restless : Int64) (un_heights : (Int → Int)) (un_drops : (Int → Int)) (un_hours : (Int → Int)) (un_many : Int) (kp_heights : (Int → Int)) (kp_drops : (Int → Int)) (kp_hours : (Int → Int)) (kp_many : Int) (h_m_ringCell : z_r m_ringCell) (h_m_ringDrops : z_r m_ringDrops) (h_m_rings : z_n m_rings) (h_tx_letters : z_r tx_letters) (h_tx_length : z_n tx_length) (h_tx_at : z_n tx_at) (h_gr_rows : z_n gr_rows) (h_gr_columns : z_n gr_columns) (h_gr_cells : z_n gr_cells) (h_gr_kind : z_r gr_kind) (h_gr_beside : z_r gr_beside) (h_nw_height : z_r nw_height) (h_nw_drops : z_r nw_drops) (h_nw_hours : z_n nw_hours) (h_og_rows : z_n og_rows) (h_og_columns : z_n og_columns) (h_og_cells : z_n og_cells) (h_og_kind : z_r og_kind) (h_og_beside : z_r og_beside) (h_la_height : z_r la_height) (h_la_drops : z_r la_drops) (h_la_hours : z_n la_hours) (h_un_heights : z_r un_heights) (h_un_drops : z_r un_drops) (h_un_hours : z_r un_hours) (h_un_many : z_n un_many) (h_kp_heights : z_r kp_heights) (h_kp_drops : z_r kp_drops) (h_kp_hours : z_r kp_hours) (h_kp_many : z_n kp_many) (rr : Int) (q_m_rings : Int) (q_tx_at : Int) (q_gr_rows : Int) (q_gr_columns : Int) (q_gr_cells : Int) (q_gr_kind : (Int → Int)) (q_gr_beside : (Int → Int)) (q_gr_besideBits : (Int → Int64)) (q_nw_height : (Int → Int)) (q_nw_drops : (Int → Int)) (q_nw_hours : Int) (q_nw_restless : Int64) (q_og_rows : Int) (q_og_columns : Int) (q_og_cells : Int) (q_og_kind : (Int → Int)) (q_og_beside : (Int → Int)) (q_og_besideBits : (Int → Int64)) (q_la_height : (Int → Int)) (q_la_drops : (Int → Int)) (q_la_hours : Int) (q_un_many : Int) (q_kp_many : Int) (hm : m_X5_lay N m_rings tx_letters tx_length tx_at gr_rows gr_columns gr_cells gr_kind gr_beside gr_besideBits nw_height nw_drops nw_hours nw_restless og_rows og_columns og_cells og_kind og_beside og_besideBits la_height la_drops la_hours un_many kp_many = some (rr, q_m_rings, q_tx_at, q_gr_rows, q_gr_columns, q_gr_cells, q_gr_kind, q_gr_beside, q_gr_besideBits, q_nw_height, q_nw_drops, q_nw_hours, q_nw_restless, q_og_rows, q_og_columns, q_og_cells, q_og_kind, q_og_beside, q_og_besideBits, q_la_height, q_la_drops, q_la_hours, q_un_many, q_kp_many)) : z_M l G yX5_lay cX5_lay 1 (some .int) (k2_rm 7 164) [.ref m_o] (w_X5 G m_o tx_o gr_o nw_o og_o la_o ss_o un_o kp_o m_AringCell m_AringDrops m_ringCell m_ringDrops m_rings ++ (w_X3 G tx_o tx_Aletters tx_letters tx_length tx_at ++ (w_X0 G gr_o gr_Akind gr_Abeside gr_AbesideBits gr_rows gr_columns gr_cells gr_kind gr_beside gr_besideBits ++ (w_X4 G nw_o nw_Aheight nw_Adrops nw_height nw_drops nw_hours nw_restless ++ (w_X0 G og_o og_Akind og_Abeside og_AbesideBits og_rows og_columns og_cells og_kind og_beside og_besideBits ++ (w_X4 G la_o la_Aheight la_Adrops la_height la_drops la_hours la_restless ++ (w_X1 G un_o un_Aheights un_Adrops un_Ahours un_heights un_drops un_hours un_many ++ w_X1 G kp_o kp_Aheights kp_Adrops kp_Ahours kp_heights kp_drops kp_hours kp_many))))))) 0 0 (fun v w => v = some (z_i rr) ∧ w = w_X5 G m_o tx_o gr_o nw_o og_o la_o ss_o un_o kp_o m_AringCell m_AringDrops m_ringCell m_ringDrops q_m_rings ++ (w_X3 G tx_o tx_Aletters tx_letters tx_length q_tx_at ++ (w_X0 G gr_o gr_Akind gr_Abeside gr_AbesideBits q_gr_rows q_gr_columns q_gr_cells q_gr_kind q_gr_beside q_gr_besideBits ++ (w_X4 G nw_o nw_Aheight nw_Adrops q_nw_height q_nw_drops q_nw_hours q_nw_restless ++ (w_X0 G og_o og_Akind og_Abeside og_AbesideBits q_og_rows q_og_columns q_og_cells q_og_kind q_og_beside q_og_besideBits ++ (w_X4 G la_o la_Aheight la_Adrops q_la_height q_la_drops q_la_hours la_restless ++ (w_X1 G un_o un_Aheights un_Adrops un_Ahours un_heights un_drops un_hours q_un_many ++ w_X1 G kp_o kp_Aheights kp_Adrops kp_Ahours kp_heights kp_drops kp_hours q_kp_many)))))) ∧ z_n rr ∧ z_n q_m_rings ∧ z_n q_tx_at ∧ z_n q_gr_rows ∧ z_n q_gr_columns ∧ z_n q_gr_cells ∧ z_r q_gr_kind ∧ z_r q_gr_beside ∧ z_r q_nw_height ∧ z_r q_nw_drops ∧ z_n q_nw_hours ∧ z_n q_og_rows ∧ z_n q_og_columns ∧ z_n q_og_cells ∧ z_r q_og_kind ∧ z_r q_og_beside ∧ z_r q_la_height ∧ z_r q_la_drops ∧ z_n q_la_hours ∧ z_n q_un_many ∧ z_n q_kp_many ∧ True) := by
  unfold m_X5_lay at hm
  refine z_M.intro (by decide +kernel) (Nat.le_of_ble_eq_true rfl) (L := [(0, .ref m_o)]) rfl (fun X C E => ?_)
  refine z_aload_n C dX5_lay_0 0 rfl ?_
  refine z_get C zf_X5_14 dX5_lay_1 0 rfl rfl ?_
  refine z_get C zf_X5_89 dX5_lay_4 3 rfl rfl ?_
  refine z_if_eq (tgt := 17) C h_tx_length dX5_lay_7 (by decide) (fun c1 => ?_) (fun c1 => ?_)
  · have hm := z_pos c1 hm
    refine z_bipush C dX5_lay_17 (by decide) ?_
    cases hm
    exact z_iret C E dX5_lay_19 ⟨rfl, rfl, (z_k (-2) rfl), h_m_rings, h_tx_at, h_gr_rows, h_gr_columns, h_gr_cells, h_gr_kind, h_gr_beside, h_nw_height, h_nw_drops, h_nw_hours, h_og_rows, h_og_columns, h_og_cells, h_og_kind, h_og_beside, h_la_height, h_la_drops, h_la_hours, h_un_many, h_kp_many, trivial⟩
  · have hm := z_neg c1 hm
    refine z_aload_n C dX5_lay_10 0 rfl ?_
    obtain ⟨r2, m_rings_3, tx_at_4, gr_rows_5, gr_columns_6, gr_cells_7, gr_kind_8, gr_beside_9, gr_besideBits_10, nw_height_11, nw_drops_12, nw_hours_13, nw_restless_14, og_rows_15, og_columns_16, og_cells_17, og_kind_18, og_beside_19, og_besideBits_20, la_height_21, la_drops_22, la_hours_23, un_many_24, kp_many_25, k26, hm⟩ := z_b24s hm
    refine z_callVi C (k_X5_layText l G N m_o tx_o gr_o nw_o og_o la_o ss_o un_o kp_o m_AringCell m_AringDrops tx_Aletters gr_Akind gr_Abeside gr_AbesideBits nw_Aheight nw_Adrops og_Akind og_Abeside og_AbesideBits la_Aheight la_Adrops un_Aheights un_Adrops un_Ahours kp_Aheights kp_Adrops kp_Ahours m_ringCell m_ringDrops m_rings tx_letters tx_length tx_at gr_rows gr_columns gr_cells gr_kind gr_beside gr_besideBits nw_height nw_drops nw_hours nw_restless og_rows og_columns og_cells og_kind og_beside og_besideBits la_height la_drops la_hours la_restless un_heights un_drops un_hours un_many kp_heights kp_drops kp_hours kp_many h_m_ringCell h_m_ringDrops h_m_rings h_tx_letters h_tx_length h_tx_at h_gr_rows h_gr_columns h_gr_cells h_gr_kind h_gr_beside h_nw_height h_nw_drops h_nw_hours h_og_rows h_og_columns h_og_cells h_og_kind h_og_beside h_la_height h_la_drops h_la_hours h_un_heights h_un_drops h_un_hours h_un_many h_kp_heights h_kp_drops h_kp_hours h_kp_many r2 m_rings_3 tx_at_4 gr_rows_5 gr_columns_6 gr_cells_7 gr_kind_8 gr_beside_9 gr_besideBits_10 nw_height_11 nw_drops_12 nw_hours_13 nw_restless_14 og_rows_15 og_columns_16 og_cells_17 og_kind_18 og_beside_19 og_besideBits_20 la_height_21 la_drops_22 la_hours_23 un_many_24 kp_many_25 k26) zv_X5_layText zl_X5_82 dX5_lay_11 [0, 1, 2, 3, 4, 5, 6, 7, 8, 9, 10, 11, 12, 13, 14, 15, 16, 17, 18, 19, 20, 21, 22, 23, 24, 25, 26] rfl rfl rfl (ws' := w_X5 G m_o tx_o gr_o nw_o og_o la_o ss_o un_o kp_o m_AringCell m_AringDrops m_ringCell m_ringDrops m_rings_3 ++ (w_X3 G tx_o tx_Aletters tx_letters tx_length tx_at_4 ++ (w_X0 G gr_o gr_Akind gr_Abeside gr_AbesideBits gr_rows_5 gr_columns_6 gr_cells_7 gr_kind_8 gr_beside_9 gr_besideBits_10 ++ (w_X4 G nw_o nw_Aheight nw_Adrops nw_height_11 nw_drops_12 nw_hours_13 nw_restless_14 ++ (w_X0 G og_o og_Akind og_Abeside og_AbesideBits og_rows_15 og_columns_16 og_cells_17 og_kind_18 og_beside_19 og_besideBits_20 ++ (w_X4 G la_o la_Aheight la_Adrops la_height_21 la_drops_22 la_hours_23 la_restless ++ (w_X1 G un_o un_Aheights un_Adrops un_Ahours un_heights un_drops un_hours un_many_24 ++ w_X1 G kp_o kp_Aheights kp_Adrops kp_Ahours kp_heights kp_drops kp_hours kp_many_25))))))) rfl 0 rfl rfl rfl [] rfl (Nat.le_of_ble_eq_true rfl) ⟨Nat.le_of_ble_eq_true rfl, Nat.le_of_ble_eq_true rfl⟩ ⟨rfl, rfl⟩ ⟨Nat.zero_le _, Nat.zero_le _⟩ (fun hF => ?_)
    obtain ⟨hb_r2, h_m_rings_3, h_tx_at_4, h_gr_rows_5, h_gr_columns_6, h_gr_cells_7, h_gr_kind_8, h_gr_beside_9, h_nw_height_11, h_nw_drops_12, h_nw_hours_13, h_og_rows_15, h_og_columns_16, h_og_cells_17, h_og_kind_18, h_og_beside_19, h_la_height_21, h_la_drops_22, h_la_hours_23, h_un_many_24, h_kp_many_25, -⟩ := hF
    refine z_if_ne (tgt := 20) C (z_n01 hb_r2) dX5_lay_14 (by decide) (fun c27 => ?_) (fun c27 => ?_)
    · have hm := z_pos c27 hm
      refine z_aload_n C dX5_lay_20 0 rfl ?_
      refine z_get C zf_X5_21 dX5_lay_21 0 rfl rfl ?_
      refine z_get C zf_X5_95 dX5_lay_24 5 rfl rfl ?_
      cases hm
      exact z_iret C E dX5_lay_27 ⟨rfl, rfl, h_gr_cells_7, h_m_rings_3, h_tx_at_4, h_gr_rows_5, h_gr_columns_6, h_gr_cells_7, h_gr_kind_8, h_gr_beside_9, h_nw_height_11, h_nw_drops_12, h_nw_hours_13, h_og_rows_15, h_og_columns_16, h_og_cells_17, h_og_kind_18, h_og_beside_19, h_la_height_21, h_la_drops_22, h_la_hours_23, h_un_many_24, h_kp_many_25, trivial⟩
    · have hm := z_neg c27 hm
      refine z_bipush C dX5_lay_17 (by decide) ?_
      cases hm
      exact z_iret C E dX5_lay_19 ⟨rfl, rfl, (z_k (-2) rfl), h_m_rings_3, h_tx_at_4, h_gr_rows_5, h_gr_columns_6, h_gr_cells_7, h_gr_kind_8, h_gr_beside_9, h_nw_height_11, h_nw_drops_12, h_nw_hours_13, h_og_rows_15, h_og_columns_16, h_og_cells_17, h_og_kind_18, h_og_beside_19, h_la_height_21, h_la_drops_22, h_la_hours_23, h_un_many_24, h_kp_many_25, trivial⟩
set_option maxRecDepth 100000 in
theorem k_X2_claim (l : Launch) (G : z_G) (N : Nat) (t_o t_Astate t_Awaiting w_o w_Aheight w_Adrops : Nat) (t_state : (Int → Int)) (t_waiting : (Int → Int)) (t_waits : Int) (t_cells : Int) (t_many : Int) (w_height : (Int → Int)) (w_drops : (Int → Int)) (w_hours : Int) (w_restless : Int64) (x2 : Int) (x3 : Int) (h_t_state : z_r t_state) (h_t_waiting : z_r t_waiting) (h_t_waits : z_n t_waits) (h_t_cells : z_n t_cells) (h_t_many : z_n t_many) (h_w_height : z_r w_height) (h_w_drops : z_r w_drops) (h_w_hours : z_n w_hours) (h_x2 : z_n x2) (h_x3 : z_n x3) (q_t_state : (Int → Int)) (q_t_waiting : (Int → Int)) (q_t_waits : Int) (hm : m_X2_claim N t_state t_waiting t_waits w_drops x2 x3 = some (q_t_state, q_t_waiting, q_t_waits)) : z_M l G yX2_claim cX2_claim 4 none (k2_rm 0 0) [.ref t_o, .ref w_o, z_i x2, z_i x3] (w_X2 G t_o t_Astate t_Awaiting t_state t_waiting t_waits t_cells t_many ++ w_X4 G w_o w_Aheight w_Adrops w_height w_drops w_hours w_restless) 0 0 (fun v w => v = none ∧ w = w_X2 G t_o t_Astate t_Awaiting q_t_state q_t_waiting q_t_waits t_cells t_many ++ w_X4 G w_o w_Aheight w_Adrops w_height w_drops w_hours w_restless ∧ z_r q_t_state ∧ z_r q_t_waiting ∧ z_n q_t_waits ∧ True) := by
  unfold m_X2_claim at hm
  refine z_M.intro (by decide +kernel) (Nat.le_of_ble_eq_true rfl) (L := [(0, .ref t_o), (1, .ref w_o), (2, z_i x2), (3, z_i x3)]) rfl (fun X C E => ?_)
  refine z_iload_n C dX2_claim_0 2 rfl ?_
  refine z_if_lt (tgt := 66) C h_x2 dX2_claim_1 (by decide) (fun c1 => ?_) (fun c1 => ?_)
  · have hm := z_pos c1 hm
    cases hm
    exact z_vret C E dX2_claim_66 ⟨rfl, rfl, h_t_state, h_t_waiting, h_t_waits, trivial⟩
  · have hm := z_neg c1 hm
    refine z_iload_n C dX2_claim_4 2 rfl ?_
    refine z_bipush C dX2_claim_5 (by decide) ?_
    refine z_icmp_ge (tgt := 66) C h_x2 (z_k 36 rfl) dX2_claim_7 (by decide) (fun c2 => ?_) (fun c2 => ?_)
    · have hm := z_pos c2 hm
      cases hm
      exact z_vret C E dX2_claim_66 ⟨rfl, rfl, h_t_state, h_t_waiting, h_t_waits, trivial⟩
    · have hm := z_neg c2 hm
      refine z_aload_n C dX2_claim_10 1 rfl ?_
      refine z_get C zf_X2_37 dX2_claim_11 3 rfl rfl ?_
      refine z_iload_n C dX2_claim_14 2 rfl ?_
      obtain ⟨c3, hm⟩ := z_chk_some hm
      refine z_iald C dX2_claim_15 5 rfl c3 h_x2 ?_
      refine z_if_le (tgt := 66) C (h_w_drops x2) dX2_claim_16 (by decide) (fun c4 => ?_) (fun c4 => ?_)
      · have hm := z_pos c4 hm
        cases hm
        exact z_vret C E dX2_claim_66 ⟨rfl, rfl, h_t_state, h_t_waiting, h_t_waits, trivial⟩
      · have hm := z_neg c4 hm
        refine z_aload_n C dX2_claim_19 0 rfl ?_
        refine z_get C zf_X2_9 dX2_claim_20 0 rfl rfl ?_
        refine z_iload_n C dX2_claim_23 2 rfl ?_
        obtain ⟨c5, hm⟩ := z_chk_some hm
        refine z_iald C dX2_claim_24 1 rfl c5 h_x2 ?_
        refine z_bipush C dX2_claim_25 (by decide) ?_
        refine z_icmp_ne (tgt := 66) C (h_t_state x2) (z_k (-4) rfl) dX2_claim_27 (by decide) (fun c6 => ?_) (fun c6 => ?_)
        · have hm := z_pos c6 hm
          cases hm
          exact z_vret C E dX2_claim_66 ⟨rfl, rfl, h_t_state, h_t_waiting, h_t_waits, trivial⟩
        · have hm := z_neg c6 hm
          refine z_aload_n C dX2_claim_30 0 rfl ?_
          refine z_get C zf_X2_18 dX2_claim_31 0 rfl rfl ?_
          refine z_bipush C dX2_claim_34 (by decide) ?_
          refine z_icmp_ge (tgt := 66) C h_t_waits (z_k 36 rfl) dX2_claim_36 (by decide) (fun c7 => ?_) (fun c7 => ?_)
          · have hm := z_pos c7 hm
            cases hm
            exact z_vret C E dX2_claim_66 ⟨rfl, rfl, h_t_state, h_t_waiting, h_t_waits, trivial⟩
          · have hm := z_neg c7 hm
            refine z_aload_n C dX2_claim_39 0 rfl ?_
            refine z_get C zf_X2_9 dX2_claim_40 0 rfl rfl ?_
            refine z_iload_n C dX2_claim_43 2 rfl ?_
            refine z_iload_n C dX2_claim_44 3 rfl ?_
            obtain ⟨c8, hm⟩ := z_chk_some hm
            refine z_iast C dX2_claim_45 1 rfl c8 h_x2 (ws' := w_X2 G t_o t_Astate t_Awaiting (z_up t_state x2 x3) t_waiting t_waits t_cells t_many ++ w_X4 G w_o w_Aheight w_Adrops w_height w_drops w_hours w_restless) rfl ?_
            refine z_aload_n C dX2_claim_46 0 rfl ?_
            refine z_get C zf_X2_15 dX2_claim_47 0 rfl rfl ?_
            refine z_aload_n C dX2_claim_50 0 rfl ?_
            refine z_get C zf_X2_18 dX2_claim_51 0 rfl rfl ?_
            refine z_iload_n C dX2_claim_54 2 rfl ?_
            obtain ⟨c9, hm⟩ := z_chk_some hm
            refine z_iast C dX2_claim_55 2 rfl c9 h_t_waits (ws' := w_X2 G t_o t_Astate t_Awaiting (z_up t_state x2 x3) (z_up t_waiting t_waits x2) t_waits t_cells t_many ++ w_X4 G w_o w_Aheight w_Adrops w_height w_drops w_hours w_restless) rfl ?_
            refine z_aload_n C dX2_claim_56 0 rfl ?_
            refine z_dup C rfl dX2_claim_57 ?_
            refine z_get C zf_X2_18 dX2_claim_58 0 rfl rfl ?_
            refine z_iconst C dX2_claim_61 ?_
            obtain ⟨c10, hm⟩ := z_chk_some hm
            refine z_iadd C dX2_claim_62 ?_
            refine z_puti C zf_X2_18 dX2_claim_63 0 rfl rfl (ws' := w_X2 G t_o t_Astate t_Awaiting (z_up t_state x2 x3) (z_up t_waiting t_waits x2) (t_waits + 1) t_cells t_many ++ w_X4 G w_o w_Aheight w_Adrops w_height w_drops w_hours w_restless) rfl ?_
            cases hm
            exact z_vret C E dX2_claim_66 ⟨rfl, rfl, (z_r_up h_t_state h_x3), (z_r_up h_t_waiting h_x2), c10, trivial⟩
set_option maxRecDepth 100000 in
theorem k_X0_cellBeside (l : Launch) (G : z_G) (N : Nat) (t_o t_Akind t_Abeside t_AbesideBits : Nat) (t_rows : Int) (t_columns : Int) (t_cells : Int) (t_kind : (Int → Int)) (t_beside : (Int → Int)) (t_besideBits : (Int → Int64)) (x1 : Int) (x2 : Int) (h_t_rows : z_n t_rows) (h_t_columns : z_n t_columns) (h_t_cells : z_n t_cells) (h_t_kind : z_r t_kind) (h_t_beside : z_r t_beside) (h_x1 : z_n x1) (h_x2 : z_n x2) (rr : Int) (hm : m_X0_cellBeside N t_beside x1 x2 = some (rr)) : z_M l G yX0_cellBeside cX0_cellBeside 4 (some .int) (k2_rm 0 0) [.ref t_o, z_i x1, z_i x2] (w_X0 G t_o t_Akind t_Abeside t_AbesideBits t_rows t_columns t_cells t_kind t_beside t_besideBits) 0 0 (fun v w => v = some (z_i rr) ∧ w = w_X0 G t_o t_Akind t_Abeside t_AbesideBits t_rows t_columns t_cells t_kind t_beside t_besideBits ∧ z_n rr ∧ True) := by
  unfold m_X0_cellBeside at hm
  refine z_M.intro (by decide +kernel) (Nat.le_of_ble_eq_true rfl) (L := [(0, .ref t_o), (1, z_i x1), (2, z_i x2)]) rfl (fun X C E => ?_)
  refine z_iload_n C dX0_cellBeside_0 1 rfl ?_
  refine z_iconst C dX0_cellBeside_1 ?_
  obtain ⟨c1, hm⟩ := z_chk_some hm
  refine z_imul C dX0_cellBeside_2 ?_
  refine z_iload_n C dX0_cellBeside_3 2 rfl ?_
  obtain ⟨c2, hm⟩ := z_chk_some hm
  refine z_iadd C dX0_cellBeside_4 ?_
  refine z_istore_n C dX0_cellBeside_5 (by decide) (L' := [(3, z_i ((x1 * 4) + x2)), (0, .ref t_o), (1, z_i x1), (2, z_i x2)]) rfl ?_
  refine z_iload_n C dX0_cellBeside_6 0 rfl ?_
  refine z_if_lt (tgt := 28) C c2 dX0_cellBeside_7 (by decide) (fun c3 => ?_) (fun c3 => ?_)
  · have hm := z_pos c3 hm
    refine z_bipush C dX0_cellBeside_28 (by decide) ?_
    cases hm
    exact z_iret C E dX0_cellBeside_30 ⟨rfl, rfl, (z_k (-4) rfl), trivial⟩
  · have hm := z_neg c3 hm
    refine z_iload_n C dX0_cellBeside_10 0 rfl ?_
    refine z_aload_n C dX0_cellBeside_11 1 rfl ?_
    refine z_get C zf_X0_25 dX0_cellBeside_12 0 rfl rfl ?_
    refine z_alen_i (x := 144) C dX0_cellBeside_15 2 rfl rfl ?_
    refine z_icmp_ge (tgt := 28) C c2 (z_k 144 rfl) dX0_cellBeside_16 (by decide) (fun c4 => ?_) (fun c4 => ?_)
    · have hm := z_pos c4 hm
      refine z_bipush C dX0_cellBeside_28 (by decide) ?_
      cases hm
      exact z_iret C E dX0_cellBeside_30 ⟨rfl, rfl, (z_k (-4) rfl), trivial⟩
    · have hm := z_neg c4 hm
      refine z_aload_n C dX0_cellBeside_19 1 rfl ?_
      refine z_get C zf_X0_25 dX0_cellBeside_20 0 rfl rfl ?_
      refine z_iload_n C dX0_cellBeside_23 0 rfl ?_
      obtain ⟨c5, hm⟩ := z_chk_some hm
      refine z_iald C dX0_cellBeside_24 2 rfl c5 c2 ?_
      refine z_goto (tgt := 30) C dX0_cellBeside_25 (by decide) ?_
      cases hm
      exact z_iret C E dX0_cellBeside_30 ⟨rfl, rfl, (h_t_beside ((x1 * 4) + x2)), trivial⟩
set_option maxRecDepth 100000 in
theorem k_X2_spread (l : Launch) (G : z_G) (N : Nat) (t_o t_Astate t_Awaiting g_o g_Akind g_Abeside g_AbesideBits w_o w_Aheight w_Adrops : Nat) (t_state : (Int → Int)) (t_waiting : (Int → Int)) (t_waits : Int) (t_cells : Int) (t_many : Int) (g_rows : Int) (g_columns : Int) (g_cells : Int) (g_kind : (Int → Int)) (g_beside : (Int → Int)) (g_besideBits : (Int → Int64)) (w_height : (Int → Int)) (w_drops : (Int → Int)) (w_hours : Int) (w_restless : Int64) (x3 : Int) (h_t_state : z_r t_state) (h_t_waiting : z_r t_waiting) (h_t_waits : z_n t_waits) (h_t_cells : z_n t_cells) (h_t_many : z_n t_many) (h_g_rows : z_n g_rows) (h_g_columns : z_n g_columns) (h_g_cells : z_n g_cells) (h_g_kind : z_r g_kind) (h_g_beside : z_r g_beside) (h_w_height : z_r w_height) (h_w_drops : z_r w_drops) (h_w_hours : z_n w_hours) (h_x3 : z_n x3) (q_t_state : (Int → Int)) (q_t_waiting : (Int → Int)) (q_t_waits : Int) (hm : m_X2_spread N t_state t_waiting t_waits g_beside w_drops x3 = some (q_t_state, q_t_waiting, q_t_waits)) : z_M l G yX2_spread cX2_spread 7 none (k2_rm 1 23) [.ref t_o, .ref g_o, .ref w_o, z_i x3] (w_X2 G t_o t_Astate t_Awaiting t_state t_waiting t_waits t_cells t_many ++ (w_X0 G g_o g_Akind g_Abeside g_AbesideBits g_rows g_columns g_cells g_kind g_beside g_besideBits ++ w_X4 G w_o w_Aheight w_Adrops w_height w_drops w_hours w_restless)) 0 0 (fun v w => v = none ∧ w = w_X2 G t_o t_Astate t_Awaiting q_t_state q_t_waiting q_t_waits t_cells t_many ++ (w_X0 G g_o g_Akind g_Abeside g_AbesideBits g_rows g_columns g_cells g_kind g_beside g_besideBits ++ w_X4 G w_o w_Aheight w_Adrops w_height w_drops w_hours w_restless) ∧ z_r q_t_state ∧ z_r q_t_waiting ∧ z_n q_t_waits ∧ True) := by
  unfold m_X2_spread at hm
  refine z_M.intro (by decide +kernel) (Nat.le_of_ble_eq_true rfl) (L := [(0, .ref t_o), (1, .ref g_o), (2, .ref w_o), (3, z_i x3)]) rfl (fun X C E => ?_)
  refine z_aload_n C dX2_spread_0 0 rfl ?_
  refine z_iconst C dX2_spread_1 ?_
  refine z_puti C zf_X2_18 dX2_spread_2 0 rfl rfl (ws' := w_X2 G t_o t_Astate t_Awaiting t_state t_waiting 0 t_cells t_many ++ (w_X0 G g_o g_Akind g_Abeside g_AbesideBits g_rows g_columns g_cells g_kind g_beside g_besideBits ++ w_X4 G w_o w_Aheight w_Adrops w_height w_drops w_hours w_restless)) rfl ?_
  refine z_aload_n C dX2_spread_5 0 rfl ?_
  refine z_aload_n C dX2_spread_6 2 rfl ?_
  refine z_iload_n C dX2_spread_7 3 rfl ?_
  refine z_iload_n C dX2_spread_8 3 rfl ?_
  obtain ⟨t_state_1, t_waiting_2, t_waits_3, k4, hm⟩ := z_b3s hm
  refine z_callVv C (k_X2_claim l G N t_o t_Astate t_Awaiting w_o w_Aheight w_Adrops t_state t_waiting 0 t_cells t_many w_height w_drops w_hours w_restless x3 x3 h_t_state h_t_waiting (z_k 0 rfl) h_t_cells h_t_many h_w_height h_w_drops h_w_hours h_x3 h_x3 t_state_1 t_waiting_2 t_waits_3 k4) zv_X2_claim zl_X2_46 dX2_spread_9 [0, 1, 2, 7, 8, 9] rfl rfl rfl (ws' := w_X2 G t_o t_Astate t_Awaiting t_state_1 t_waiting_2 t_waits_3 t_cells t_many ++ (w_X0 G g_o g_Akind g_Abeside g_AbesideBits g_rows g_columns g_cells g_kind g_beside g_besideBits ++ w_X4 G w_o w_Aheight w_Adrops w_height w_drops w_hours w_restless)) rfl 0 rfl rfl rfl [] rfl (Nat.le_of_ble_eq_true rfl) ⟨Nat.le_of_ble_eq_true rfl, Nat.le_of_ble_eq_true rfl⟩ ⟨rfl, rfl⟩ ⟨Nat.zero_le _, Nat.zero_le _⟩ (fun hF => ?_)
  obtain ⟨h_t_state_1, h_t_waiting_2, h_t_waits_3, -⟩ := hF
  refine z_iconst C dX2_spread_12 ?_
  refine z_istore C dX2_spread_13 (by decide) (L' := [(4, z_i 0), (0, .ref t_o), (1, .ref g_o), (2, .ref w_o), (3, z_i x3)]) rfl ?_
  obtain ⟨o_t_state_1, o_t_waiting_1, o_t_waits_1, hl, hm⟩ := z_b3s hm
  have JX1 : z_r o_t_state_1 → z_r o_t_waiting_1 → z_n o_t_waits_1 → z_J X 0 0 (w_X2 G t_o t_Astate t_Awaiting o_t_state_1 o_t_waiting_1 o_t_waits_1 t_cells t_many ++ (w_X0 G g_o g_Akind g_Abeside g_AbesideBits g_rows g_columns g_cells g_kind g_beside g_besideBits ++ w_X4 G w_o w_Aheight w_Adrops w_height w_drops w_hours w_restless)) [] 85 [] := by
    intro h_o_t_state_1 h_o_t_waiting_1 h_o_t_waits_1
    clear hl
    cases hm
    exact z_vret C E dX2_spread_85 ⟨rfl, rfl, h_o_t_state_1, h_o_t_waiting_1, h_o_t_waits_1, trivial⟩
  clear hm
  have L1 : ∀ (n1 : Nat) (v4_1 : Int) (t_state_1 : (Int → Int)) (t_waiting_1 : (Int → Int)) (t_waits_1 : Int), z_n v4_1 → z_r t_state_1 → z_r t_waiting_1 → z_n t_waits_1 → m_X2_spread_l1 N g_beside w_drops x3 n1 v4_1 t_state_1 t_waiting_1 t_waits_1 = some (o_t_state_1, o_t_waiting_1, o_t_waits_1) → z_J X 0 0 (w_X2 G t_o t_Astate t_Awaiting t_state_1 t_waiting_1 t_waits_1 t_cells t_many ++ (w_X0 G g_o g_Akind g_Abeside g_AbesideBits g_rows g_columns g_cells g_kind g_beside g_besideBits ++ w_X4 G w_o w_Aheight w_Adrops w_height w_drops w_hours w_restless)) [(0, .ref t_o), (1, .ref g_o), (2, .ref w_o), (3, z_i x3), (4, z_i v4_1)] 15 [] := by
    clear hl
    intro n1
    induction n1 with
    | zero =>
      intro v4_1 t_state_1 t_waiting_1 t_waits_1 h_v4_1 h_t_state_1 h_t_waiting_1 h_t_waits_1 hm
      rw [m_X2_spread_l1] at hm
      cases hm
    | succ n1 ih1 =>
      intro v4_1 t_state_1 t_waiting_1 t_waits_1 h_v4_1 h_t_state_1 h_t_waiting_1 h_t_waits_1 hm
      rw [m_X2_spread_l1] at hm
      refine z_iload C dX2_spread_15 4 rfl ?_
      refine z_bipush C dX2_spread_17 (by decide) ?_
      refine z_icmp_ge (tgt := 85) C h_v4_1 (z_k 36 rfl) dX2_spread_19 (by decide) (fun c5 => ?_) (fun c5 => ?_)
      · have hm := z_pos c5 hm
        refine z_sub (L' := []) [] rfl ?_
        cases hm
        exact JX1 h_t_state_1 h_t_waiting_1 h_t_waits_1
      · have hm := z_neg c5 hm
        refine z_aload_n C dX2_spread_22 0 rfl ?_
        refine z_get C zf_X2_18 dX2_spread_23 0 rfl rfl ?_
        refine z_if_le (tgt := 85) C h_t_waits_1 dX2_spread_26 (by decide) (fun c6 => ?_) (fun c6 => ?_)
        · have hm := z_pos c6 hm
          refine z_sub (L' := []) [] rfl ?_
          cases hm
          exact JX1 h_t_state_1 h_t_waiting_1 h_t_waits_1
        · have hm := z_neg c6 hm
          refine z_aload_n C dX2_spread_29 0 rfl ?_
          refine z_dup C rfl dX2_spread_30 ?_
          refine z_get C zf_X2_18 dX2_spread_31 0 rfl rfl ?_
          refine z_iconst C dX2_spread_34 ?_
          obtain ⟨c7, hm⟩ := z_chk_some hm
          refine z_isub C dX2_spread_35 ?_
          refine z_puti C zf_X2_18 dX2_spread_36 0 rfl rfl (ws' := w_X2 G t_o t_Astate t_Awaiting t_state_1 t_waiting_1 (t_waits_1 - 1) t_cells t_many ++ (w_X0 G g_o g_Akind g_Abeside g_AbesideBits g_rows g_columns g_cells g_kind g_beside g_besideBits ++ w_X4 G w_o w_Aheight w_Adrops w_height w_drops w_hours w_restless)) rfl ?_
          refine z_aload_n C dX2_spread_39 0 rfl ?_
          refine z_get C zf_X2_15 dX2_spread_40 0 rfl rfl ?_
          refine z_aload_n C dX2_spread_43 0 rfl ?_
          refine z_get C zf_X2_18 dX2_spread_44 0 rfl rfl ?_
          obtain ⟨c8, hm⟩ := z_chk_some hm
          refine z_iald C dX2_spread_47 2 rfl c8 c7 ?_
          refine z_istore C dX2_spread_48 (by decide) (L' := [(5, z_i (t_waiting_1 (t_waits_1 - 1))), (0, .ref t_o), (1, .ref g_o), (2, .ref w_o), (3, z_i x3), (4, z_i v4_1)]) rfl ?_
          refine z_iconst C dX2_spread_50 ?_
          refine z_istore C dX2_spread_51 (by decide) (L' := [(6, z_i 0), (5, z_i (t_waiting_1 (t_waits_1 - 1))), (0, .ref t_o), (1, .ref g_o), (2, .ref w_o), (3, z_i x3), (4, z_i v4_1)]) rfl ?_
          obtain ⟨o_t_state_2, o_t_waiting_2, o_t_waits_2, hl, hm⟩ := z_b3s hm
          have JX2 : z_r o_t_state_2 → z_r o_t_waiting_2 → z_n o_t_waits_2 → z_J X 0 0 (w_X2 G t_o t_Astate t_Awaiting o_t_state_2 o_t_waiting_2 o_t_waits_2 t_cells t_many ++ (w_X0 G g_o g_Akind g_Abeside g_AbesideBits g_rows g_columns g_cells g_kind g_beside g_besideBits ++ w_X4 G w_o w_Aheight w_Adrops w_height w_drops w_hours w_restless)) [(0, .ref t_o), (1, .ref g_o), (2, .ref w_o), (3, z_i x3), (4, z_i v4_1)] 79 [] := by
            intro h_o_t_state_2 h_o_t_waiting_2 h_o_t_waits_2
            clear hl
            obtain ⟨c17, hm⟩ := z_chk_some hm
            refine z_iinc C dX2_spread_79 4 rfl (by decide) (L' := [(4, z_i (v4_1 + 1)), (0, .ref t_o), (1, .ref g_o), (2, .ref w_o), (3, z_i x3)]) rfl ?_
            refine z_goto (tgt := 15) C dX2_spread_82 (by decide) ?_
            refine z_sub (L' := [(0, .ref t_o), (1, .ref g_o), (2, .ref w_o), (3, z_i x3), (4, z_i (v4_1 + 1))]) [1, 2, 3, 4, 0] rfl ?_
            exact ih1 (v4_1 + 1) o_t_state_2 o_t_waiting_2 o_t_waits_2 c17 h_o_t_state_2 h_o_t_waiting_2 h_o_t_waits_2 hm
          clear hm
          have L2 : ∀ (n2 : Nat) (v6_2 : Int) (t_state_2 : (Int → Int)) (t_waiting_2 : (Int → Int)) (t_waits_2 : Int), z_n v6_2 → z_r t_state_2 → z_r t_waiting_2 → z_n t_waits_2 → m_X2_spread_l2 N g_beside (t_waiting_1 (t_waits_1 - 1)) w_drops x3 n2 v6_2 t_state_2 t_waiting_2 t_waits_2 = some (o_t_state_2, o_t_waiting_2, o_t_waits_2) → z_J X 0 0 (w_X2 G t_o t_Astate t_Awaiting t_state_2 t_waiting_2 t_waits_2 t_cells t_many ++ (w_X0 G g_o g_Akind g_Abeside g_AbesideBits g_rows g_columns g_cells g_kind g_beside g_besideBits ++ w_X4 G w_o w_Aheight w_Adrops w_height w_drops w_hours w_restless)) [(0, .ref t_o), (1, .ref g_o), (2, .ref w_o), (3, z_i x3), (4, z_i v4_1), (5, z_i (t_waiting_1 (t_waits_1 - 1))), (6, z_i v6_2)] 53 [] := by
            clear hl
            intro n2
            induction n2 with
            | zero =>
              intro v6_2 t_state_2 t_waiting_2 t_waits_2 h_v6_2 h_t_state_2 h_t_waiting_2 h_t_waits_2 hm
              rw [m_X2_spread_l2] at hm
              cases hm
            | succ n2 ih2 =>
              intro v6_2 t_state_2 t_waiting_2 t_waits_2 h_v6_2 h_t_state_2 h_t_waiting_2 h_t_waits_2 hm
              rw [m_X2_spread_l2] at hm
              refine z_iload C dX2_spread_53 6 rfl ?_
              refine z_iconst C dX2_spread_55 ?_
              refine z_icmp_ge (tgt := 79) C h_v6_2 (z_k 4 rfl) dX2_spread_56 (by decide) (fun c9 => ?_) (fun c9 => ?_)
              · have hm := z_pos c9 hm
                refine z_sub (L' := [(0, .ref t_o), (1, .ref g_o), (2, .ref w_o), (3, z_i x3), (4, z_i v4_1)]) [0, 1, 2, 3, 4] rfl ?_
                cases hm
                exact JX2 h_t_state_2 h_t_waiting_2 h_t_waits_2
              · have hm := z_neg c9 hm
                refine z_aload_n C dX2_spread_59 0 rfl ?_
                refine z_aload_n C dX2_spread_60 2 rfl ?_
                refine z_aload_n C dX2_spread_61 1 rfl ?_
                refine z_iload C dX2_spread_62 5 rfl ?_
                refine z_iload C dX2_spread_64 6 rfl ?_
                obtain ⟨r10, k11, hm⟩ := z_b1s hm
                refine z_callVi C (k_X0_cellBeside l G N g_o g_Akind g_Abeside g_AbesideBits g_rows g_columns g_cells g_kind g_beside g_besideBits (t_waiting_1 (t_waits_1 - 1)) v6_2 h_g_rows h_g_columns h_g_cells h_g_kind h_g_beside (h_t_waiting_1 (t_waits_1 - 1)) h_v6_2 r10 k11) zv_X0_cellBeside zl_X2_50 dX2_spread_66 [3, 4, 5, 6] rfl rfl rfl (ws' := w_X2 G t_o t_Astate t_Awaiting t_state_2 t_waiting_2 t_waits_2 t_cells t_many ++ (w_X0 G g_o g_Akind g_Abeside g_AbesideBits g_rows g_columns g_cells g_kind g_beside g_besideBits ++ w_X4 G w_o w_Aheight w_Adrops w_height w_drops w_hours w_restless)) rfl 3 rfl rfl rfl [.ref w_o, .ref t_o] rfl (Nat.le_of_ble_eq_true rfl) ⟨Nat.le_of_ble_eq_true rfl, Nat.le_of_ble_eq_true rfl⟩ ⟨rfl, rfl⟩ ⟨Nat.zero_le _, Nat.zero_le _⟩ (fun hF => ?_)
                obtain ⟨h_r10, -⟩ := hF
                refine z_iload_n C dX2_spread_69 3 rfl ?_
                obtain ⟨t_state_12, t_waiting_13, t_waits_14, k15, hm⟩ := z_b3s hm
                refine z_callVv C (k_X2_claim l G N t_o t_Astate t_Awaiting w_o w_Aheight w_Adrops t_state_2 t_waiting_2 t_waits_2 t_cells t_many w_height w_drops w_hours w_restless r10 x3 h_t_state_2 h_t_waiting_2 h_t_waits_2 h_t_cells h_t_many h_w_height h_w_drops h_w_hours h_r10 h_x3 t_state_12 t_waiting_13 t_waits_14 k15) zv_X2_claim zl_X2_46 dX2_spread_70 [0, 1, 2, 7, 8, 9] rfl rfl rfl (ws' := w_X2 G t_o t_Astate t_Awaiting t_state_12 t_waiting_13 t_waits_14 t_cells t_many ++ (w_X0 G g_o g_Akind g_Abeside g_AbesideBits g_rows g_columns g_cells g_kind g_beside g_besideBits ++ w_X4 G w_o w_Aheight w_Adrops w_height w_drops w_hours w_restless)) rfl 0 rfl rfl rfl [] rfl (Nat.le_of_ble_eq_true rfl) ⟨Nat.le_of_ble_eq_true rfl, Nat.le_of_ble_eq_true rfl⟩ ⟨rfl, rfl⟩ ⟨Nat.zero_le _, Nat.zero_le _⟩ (fun hF => ?_)
                obtain ⟨h_t_state_12, h_t_waiting_13, h_t_waits_14, -⟩ := hF
                obtain ⟨c16, hm⟩ := z_chk_some hm
                refine z_iinc C dX2_spread_73 6 rfl (by decide) (L' := [(6, z_i (v6_2 + 1)), (0, .ref t_o), (1, .ref g_o), (2, .ref w_o), (3, z_i x3), (4, z_i v4_1), (5, z_i (t_waiting_1 (t_waits_1 - 1)))]) rfl ?_
                refine z_goto (tgt := 53) C dX2_spread_76 (by decide) ?_
                refine z_sub (L' := [(0, .ref t_o), (1, .ref g_o), (2, .ref w_o), (3, z_i x3), (4, z_i v4_1), (5, z_i (t_waiting_1 (t_waits_1 - 1))), (6, z_i (v6_2 + 1))]) [1, 2, 3, 4, 5, 6, 0] rfl ?_
                exact ih2 (v6_2 + 1) t_state_12 t_waiting_13 t_waits_14 c16 h_t_state_12 h_t_waiting_13 h_t_waits_14 hm
          refine z_sub (L' := [(0, .ref t_o), (1, .ref g_o), (2, .ref w_o), (3, z_i x3), (4, z_i v4_1), (5, z_i (t_waiting_1 (t_waits_1 - 1))), (6, z_i 0)]) [2, 3, 4, 5, 6, 1, 0] rfl ?_
          exact L2 N 0 t_state_1 t_waiting_1 (t_waits_1 - 1) (z_k 0 rfl) h_t_state_1 h_t_waiting_1 c7 hl
  refine z_sub (L' := [(0, .ref t_o), (1, .ref g_o), (2, .ref w_o), (3, z_i x3), (4, z_i 0)]) [1, 2, 3, 4, 0] rfl ?_
  exact L1 N 0 t_state_1 t_waiting_2 t_waits_3 (z_k 0 rfl) h_t_state_1 h_t_waiting_2 h_t_waits_3 hl
set_option maxRecDepth 100000 in
theorem k_X2_map (l : Launch) (G : z_G) (N : Nat) (t_o t_Astate t_Awaiting g_o g_Akind g_Abeside g_AbesideBits w_o w_Aheight w_Adrops : Nat) (t_state : (Int → Int)) (t_waiting : (Int → Int)) (t_waits : Int) (t_cells : Int) (t_many : Int) (g_rows : Int) (g_columns : Int) (g_cells : Int) (g_kind : (Int → Int)) (g_beside : (Int → Int)) (g_besideBits : (Int → Int64)) (w_height : (Int → Int)) (w_drops : (Int → Int)) (w_hours : Int) (w_restless : Int64) (h_t_state : z_r t_state) (h_t_waiting : z_r t_waiting) (h_t_waits : z_n t_waits) (h_t_cells : z_n t_cells) (h_t_many : z_n t_many) (h_g_rows : z_n g_rows) (h_g_columns : z_n g_columns) (h_g_cells : z_n g_cells) (h_g_kind : z_r g_kind) (h_g_beside : z_r g_beside) (h_w_height : z_r w_height) (h_w_drops : z_r w_drops) (h_w_hours : z_n w_hours) (q_t_state : (Int → Int)) (q_t_waiting : (Int → Int)) (q_t_waits : Int) (q_t_cells : Int) (q_t_many : Int) (hm : m_X2_map N t_state t_waiting t_waits t_cells t_many g_cells g_beside w_drops = some (q_t_state, q_t_waiting, q_t_waits, q_t_cells, q_t_many)) : z_M l G yX2_map cX2_map 4 none (k2_rm 2 49) [.ref t_o, .ref g_o, .ref w_o] (w_X2 G t_o t_Astate t_Awaiting t_state t_waiting t_waits t_cells t_many ++ (w_X0 G g_o g_Akind g_Abeside g_AbesideBits g_rows g_columns g_cells g_kind g_beside g_besideBits ++ w_X4 G w_o w_Aheight w_Adrops w_height w_drops w_hours w_restless)) 0 0 (fun v w => v = none ∧ w = w_X2 G t_o t_Astate t_Awaiting q_t_state q_t_waiting q_t_waits q_t_cells q_t_many ++ (w_X0 G g_o g_Akind g_Abeside g_AbesideBits g_rows g_columns g_cells g_kind g_beside g_besideBits ++ w_X4 G w_o w_Aheight w_Adrops w_height w_drops w_hours w_restless) ∧ z_r q_t_state ∧ z_r q_t_waiting ∧ z_n q_t_waits ∧ z_n q_t_cells ∧ z_n q_t_many ∧ True) := by
  unfold m_X2_map at hm
  refine z_M.intro (by decide +kernel) (Nat.le_of_ble_eq_true rfl) (L := [(0, .ref t_o), (1, .ref g_o), (2, .ref w_o)]) rfl (fun X C E => ?_)
  refine z_aload_n C dX2_map_0 0 rfl ?_
  refine z_get C zf_X2_9 dX2_map_1 0 rfl rfl ?_
  refine z_bipush C dX2_map_4 (by decide) ?_
  obtain ⟨t_state_1, k2, hm⟩ := z_b1s hm
  refine z_callSv C (k_J7_fill_53178 l G N t_Astate 36 t_state (-4) (z_k 36 rfl) h_t_state (z_k (-4) rfl) t_state_1 k2) zs_J7_fill_53178 zl_X2_28 dX2_map_6 [1] rfl rfl rfl (ws' := w_X2 G t_o t_Astate t_Awaiting t_state_1 t_waiting t_waits t_cells t_many ++ (w_X0 G g_o g_Akind g_Abeside g_AbesideBits g_rows g_columns g_cells g_kind g_beside g_besideBits ++ w_X4 G w_o w_Aheight w_Adrops w_height w_drops w_hours w_restless)) rfl rfl [] rfl (Nat.le_of_ble_eq_true rfl) ⟨Nat.le_of_ble_eq_true rfl, Nat.le_of_ble_eq_true rfl⟩ ⟨rfl, rfl⟩ ⟨Nat.zero_le _, Nat.zero_le _⟩ (fun hF => ?_)
  obtain ⟨h_t_state_1, -⟩ := hF
  refine z_aload_n C dX2_map_9 0 rfl ?_
  refine z_aload_n C dX2_map_10 1 rfl ?_
  refine z_get C zf_X2_34 dX2_map_11 3 rfl rfl ?_
  refine z_puti C zf_X2_22 dX2_map_14 0 rfl rfl (ws' := w_X2 G t_o t_Astate t_Awaiting t_state_1 t_waiting t_waits g_cells t_many ++ (w_X0 G g_o g_Akind g_Abeside g_AbesideBits g_rows g_columns g_cells g_kind g_beside g_besideBits ++ w_X4 G w_o w_Aheight w_Adrops w_height w_drops w_hours w_restless)) rfl ?_
  refine z_aload_n C dX2_map_17 0 rfl ?_
  refine z_iconst C dX2_map_18 ?_
  refine z_puti C zf_X2_25 dX2_map_19 0 rfl rfl (ws' := w_X2 G t_o t_Astate t_Awaiting t_state_1 t_waiting t_waits g_cells 0 ++ (w_X0 G g_o g_Akind g_Abeside g_AbesideBits g_rows g_columns g_cells g_kind g_beside g_besideBits ++ w_X4 G w_o w_Aheight w_Adrops w_height w_drops w_hours w_restless)) rfl ?_
  refine z_iconst C dX2_map_22 ?_
  refine z_istore_n C dX2_map_23 (by decide) (L' := [(3, z_i 0), (0, .ref t_o), (1, .ref g_o), (2, .ref w_o)]) rfl ?_
  obtain ⟨o_t_state_1, o_t_waiting_1, o_t_waits_1, o_t_many_1, hl, hm⟩ := z_b4s hm
  have JX1 : z_r o_t_state_1 → z_r o_t_waiting_1 → z_n o_t_waits_1 → z_n o_t_many_1 → z_J X 0 0 (w_X2 G t_o t_Astate t_Awaiting o_t_state_1 o_t_waiting_1 o_t_waits_1 g_cells o_t_many_1 ++ (w_X0 G g_o g_Akind g_Abeside g_AbesideBits g_rows g_columns g_cells g_kind g_beside g_besideBits ++ w_X4 G w_o w_Aheight w_Adrops w_height w_drops w_hours w_restless)) [] 81 [] := by
    intro h_o_t_state_1 h_o_t_waiting_1 h_o_t_waits_1 h_o_t_many_1
    clear hl
    cases hm
    exact z_vret C E dX2_map_81 ⟨rfl, rfl, h_o_t_state_1, h_o_t_waiting_1, h_o_t_waits_1, h_g_cells, h_o_t_many_1, trivial⟩
  clear hm
  have L1 : ∀ (n1 : Nat) (v3_1 : Int) (t_state_1 : (Int → Int)) (t_waiting_1 : (Int → Int)) (t_waits_1 : Int) (t_many_1 : Int), z_n v3_1 → z_r t_state_1 → z_r t_waiting_1 → z_n t_waits_1 → z_n t_many_1 → m_X2_map_l1 N g_cells w_drops g_beside n1 v3_1 t_state_1 t_waiting_1 t_waits_1 t_many_1 = some (o_t_state_1, o_t_waiting_1, o_t_waits_1, o_t_many_1) → z_J X 0 0 (w_X2 G t_o t_Astate t_Awaiting t_state_1 t_waiting_1 t_waits_1 g_cells t_many_1 ++ (w_X0 G g_o g_Akind g_Abeside g_AbesideBits g_rows g_columns g_cells g_kind g_beside g_besideBits ++ w_X4 G w_o w_Aheight w_Adrops w_height w_drops w_hours w_restless)) [(0, .ref t_o), (1, .ref g_o), (2, .ref w_o), (3, z_i v3_1)] 24 [] := by
    clear hl
    intro n1
    induction n1 with
    | zero =>
      intro v3_1 t_state_1 t_waiting_1 t_waits_1 t_many_1 h_v3_1 h_t_state_1 h_t_waiting_1 h_t_waits_1 h_t_many_1 hm
      rw [m_X2_map_l1] at hm
      cases hm
    | succ n1 ih1 =>
      intro v3_1 t_state_1 t_waiting_1 t_waits_1 t_many_1 h_v3_1 h_t_state_1 h_t_waiting_1 h_t_waits_1 h_t_many_1 hm
      rw [m_X2_map_l1] at hm
      refine z_iload_n C dX2_map_24 3 rfl ?_
      refine z_aload_n C dX2_map_25 1 rfl ?_
      refine z_get C zf_X2_34 dX2_map_26 3 rfl rfl ?_
      refine z_icmp_ge (tgt := 81) C h_v3_1 h_g_cells dX2_map_29 (by decide) (fun c3 => ?_) (fun c3 => ?_)
      · have hm := z_pos c3 hm
        refine z_sub (L' := []) [] rfl ?_
        cases hm
        exact JX1 h_t_state_1 h_t_waiting_1 h_t_waits_1 h_t_many_1
      · have hm := z_neg c3 hm
        refine z_iload_n C dX2_map_32 3 rfl ?_
        refine z_bipush C dX2_map_33 (by decide) ?_
        refine z_icmp_ge (tgt := 81) C h_v3_1 (z_k 36 rfl) dX2_map_35 (by decide) (fun c4 => ?_) (fun c4 => ?_)
        · have hm := z_pos c4 hm
          refine z_sub (L' := []) [] rfl ?_
          cases hm
          exact JX1 h_t_state_1 h_t_waiting_1 h_t_waits_1 h_t_many_1
        · have hm := z_neg c4 hm
          refine z_aload_n C dX2_map_38 2 rfl ?_
          refine z_get C zf_X2_37 dX2_map_39 7 rfl rfl ?_
          refine z_iload_n C dX2_map_42 3 rfl ?_
          obtain ⟨c5, hm⟩ := z_chk_some hm
          refine z_iald C dX2_map_43 9 rfl c5 h_v3_1 ?_
          refine z_if_le (tgt := 75) C (h_w_drops v3_1) dX2_map_44 (by decide) (fun c6 => ?_) (fun c6 => ?_)
          · have hm := z_pos c6 hm
            obtain ⟨c7, hm⟩ := z_chk_some hm
            refine z_iinc C dX2_map_75 3 rfl (by decide) (L' := [(3, z_i (v3_1 + 1)), (0, .ref t_o), (1, .ref g_o), (2, .ref w_o)]) rfl ?_
            refine z_goto (tgt := 24) C dX2_map_78 (by decide) ?_
            refine z_sub (L' := [(0, .ref t_o), (1, .ref g_o), (2, .ref w_o), (3, z_i (v3_1 + 1))]) [1, 2, 3, 0] rfl ?_
            exact ih1 (v3_1 + 1) t_state_1 t_waiting_1 t_waits_1 t_many_1 c7 h_t_state_1 h_t_waiting_1 h_t_waits_1 h_t_many_1 hm
          · have hm := z_neg c6 hm
            refine z_aload_n C dX2_map_47 0 rfl ?_
            refine z_get C zf_X2_9 dX2_map_48 0 rfl rfl ?_
            refine z_iload_n C dX2_map_51 3 rfl ?_
            obtain ⟨c8, hm⟩ := z_chk_some hm
            refine z_iald C dX2_map_52 1 rfl c8 h_v3_1 ?_
            refine z_bipush C dX2_map_53 (by decide) ?_
            refine z_icmp_ne (tgt := 75) C (h_t_state_1 v3_1) (z_k (-4) rfl) dX2_map_55 (by decide) (fun c9 => ?_) (fun c9 => ?_)
            · have hm := z_pos c9 hm
              obtain ⟨c10, hm⟩ := z_chk_some hm
              refine z_iinc C dX2_map_75 3 rfl (by decide) (L' := [(3, z_i (v3_1 + 1)), (0, .ref t_o), (1, .ref g_o), (2, .ref w_o)]) rfl ?_
              refine z_goto (tgt := 24) C dX2_map_78 (by decide) ?_
              refine z_sub (L' := [(0, .ref t_o), (1, .ref g_o), (2, .ref w_o), (3, z_i (v3_1 + 1))]) [1, 2, 3, 0] rfl ?_
              exact ih1 (v3_1 + 1) t_state_1 t_waiting_1 t_waits_1 t_many_1 c10 h_t_state_1 h_t_waiting_1 h_t_waits_1 h_t_many_1 hm
            · have hm := z_neg c9 hm
              refine z_aload_n C dX2_map_58 0 rfl ?_
              refine z_dup C rfl dX2_map_59 ?_
              refine z_get C zf_X2_25 dX2_map_60 0 rfl rfl ?_
              refine z_iconst C dX2_map_63 ?_
              obtain ⟨c11, hm⟩ := z_chk_some hm
              refine z_iadd C dX2_map_64 ?_
              refine z_puti C zf_X2_25 dX2_map_65 0 rfl rfl (ws' := w_X2 G t_o t_Astate t_Awaiting t_state_1 t_waiting_1 t_waits_1 g_cells (t_many_1 + 1) ++ (w_X0 G g_o g_Akind g_Abeside g_AbesideBits g_rows g_columns g_cells g_kind g_beside g_besideBits ++ w_X4 G w_o w_Aheight w_Adrops w_height w_drops w_hours w_restless)) rfl ?_
              refine z_aload_n C dX2_map_68 0 rfl ?_
              refine z_aload_n C dX2_map_69 1 rfl ?_
              refine z_aload_n C dX2_map_70 2 rfl ?_
              refine z_iload_n C dX2_map_71 3 rfl ?_
              obtain ⟨t_state_12, t_waiting_13, t_waits_14, k15, hm⟩ := z_b3s hm
              refine z_callVv C (k_X2_spread l G N t_o t_Astate t_Awaiting g_o g_Akind g_Abeside g_AbesideBits w_o w_Aheight w_Adrops t_state_1 t_waiting_1 t_waits_1 g_cells (t_many_1 + 1) g_rows g_columns g_cells g_kind g_beside g_besideBits w_height w_drops w_hours w_restless v3_1 h_t_state_1 h_t_waiting_1 h_t_waits_1 h_g_cells c11 h_g_rows h_g_columns h_g_cells h_g_kind h_g_beside h_w_height h_w_drops h_w_hours h_v3_1 t_state_12 t_waiting_13 t_waits_14 k15) zv_X2_spread zl_X2_42 dX2_map_72 [0, 1, 2, 3, 4, 5, 6, 7, 8, 9] rfl rfl rfl (ws' := w_X2 G t_o t_Astate t_Awaiting t_state_12 t_waiting_13 t_waits_14 g_cells (t_many_1 + 1) ++ (w_X0 G g_o g_Akind g_Abeside g_AbesideBits g_rows g_columns g_cells g_kind g_beside g_besideBits ++ w_X4 G w_o w_Aheight w_Adrops w_height w_drops w_hours w_restless)) rfl 0 rfl rfl rfl [] rfl (Nat.le_of_ble_eq_true rfl) ⟨Nat.le_of_ble_eq_true rfl, Nat.le_of_ble_eq_true rfl⟩ ⟨rfl, rfl⟩ ⟨Nat.zero_le _, Nat.zero_le _⟩ (fun hF => ?_)
              obtain ⟨h_t_state_12, h_t_waiting_13, h_t_waits_14, -⟩ := hF
              obtain ⟨c16, hm⟩ := z_chk_some hm
              refine z_iinc C dX2_map_75 3 rfl (by decide) (L' := [(3, z_i (v3_1 + 1)), (0, .ref t_o), (1, .ref g_o), (2, .ref w_o)]) rfl ?_
              refine z_goto (tgt := 24) C dX2_map_78 (by decide) ?_
              refine z_sub (L' := [(0, .ref t_o), (1, .ref g_o), (2, .ref w_o), (3, z_i (v3_1 + 1))]) [1, 2, 3, 0] rfl ?_
              exact ih1 (v3_1 + 1) t_state_12 t_waiting_13 t_waits_14 (t_many_1 + 1) c16 h_t_state_12 h_t_waiting_13 h_t_waits_14 c11 hm
  refine z_sub (L' := [(0, .ref t_o), (1, .ref g_o), (2, .ref w_o), (3, z_i 0)]) [1, 2, 3, 0] rfl ?_
  exact L1 N 0 t_state_1 t_waiting t_waits 0 (z_k 0 rfl) h_t_state_1 h_t_waiting h_t_waits (z_k 0 rfl) hl
set_option maxRecDepth 100000 in
theorem k_X2_stateOf (l : Launch) (G : z_G) (N : Nat) (t_o t_Astate t_Awaiting : Nat) (t_state : (Int → Int)) (t_waiting : (Int → Int)) (t_waits : Int) (t_cells : Int) (t_many : Int) (x1 : Int) (h_t_state : z_r t_state) (h_t_waiting : z_r t_waiting) (h_t_waits : z_n t_waits) (h_t_cells : z_n t_cells) (h_t_many : z_n t_many) (h_x1 : z_n x1) (rr : Int) (hm : m_X2_stateOf N t_state t_cells x1 = some (rr)) : z_M l G yX2_stateOf cX2_stateOf 2 (some .int) (k2_rm 0 0) [.ref t_o, z_i x1] (w_X2 G t_o t_Astate t_Awaiting t_state t_waiting t_waits t_cells t_many) 0 0 (fun v w => v = some (z_i rr) ∧ w = w_X2 G t_o t_Astate t_Awaiting t_state t_waiting t_waits t_cells t_many ∧ z_n rr ∧ True) := by
  unfold m_X2_stateOf at hm
  refine z_M.intro (by decide +kernel) (Nat.le_of_ble_eq_true rfl) (L := [(0, .ref t_o), (1, z_i x1)]) rfl (fun X C E => ?_)
  refine z_iload_n C dX2_stateOf_0 1 rfl ?_
  refine z_if_lt (tgt := 27) C h_x1 dX2_stateOf_1 (by decide) (fun c1 => ?_) (fun c1 => ?_)
  · have hm := z_pos c1 hm
    refine z_bipush C dX2_stateOf_27 (by decide) ?_
    cases hm
    exact z_iret C E dX2_stateOf_29 ⟨rfl, rfl, (z_k (-4) rfl), trivial⟩
  · have hm := z_neg c1 hm
    refine z_iload_n C dX2_stateOf_4 1 rfl ?_
    refine z_aload_n C dX2_stateOf_5 0 rfl ?_
    refine z_get C zf_X2_22 dX2_stateOf_6 0 rfl rfl ?_
    refine z_icmp_ge (tgt := 27) C h_x1 h_t_cells dX2_stateOf_9 (by decide) (fun c2 => ?_) (fun c2 => ?_)
    · have hm := z_pos c2 hm
      refine z_bipush C dX2_stateOf_27 (by decide) ?_
      cases hm
      exact z_iret C E dX2_stateOf_29 ⟨rfl, rfl, (z_k (-4) rfl), trivial⟩
    · have hm := z_neg c2 hm
      refine z_iload_n C dX2_stateOf_12 1 rfl ?_
      refine z_bipush C dX2_stateOf_13 (by decide) ?_
      refine z_icmp_ge (tgt := 27) C h_x1 (z_k 36 rfl) dX2_stateOf_15 (by decide) (fun c3 => ?_) (fun c3 => ?_)
      · have hm := z_pos c3 hm
        refine z_bipush C dX2_stateOf_27 (by decide) ?_
        cases hm
        exact z_iret C E dX2_stateOf_29 ⟨rfl, rfl, (z_k (-4) rfl), trivial⟩
      · have hm := z_neg c3 hm
        refine z_aload_n C dX2_stateOf_18 0 rfl ?_
        refine z_get C zf_X2_9 dX2_stateOf_19 0 rfl rfl ?_
        refine z_iload_n C dX2_stateOf_22 1 rfl ?_
        obtain ⟨c4, hm⟩ := z_chk_some hm
        refine z_iald C dX2_stateOf_23 1 rfl c4 h_x1 ?_
        refine z_goto (tgt := 29) C dX2_stateOf_24 (by decide) ?_
        cases hm
        exact z_iret C E dX2_stateOf_29 ⟨rfl, rfl, (h_t_state x1), trivial⟩
