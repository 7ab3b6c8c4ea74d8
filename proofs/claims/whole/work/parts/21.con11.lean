set_option maxRecDepth 100000 in
theorem k_X5_power (l : Launch) (G : z_G) (N : Nat) (x0 : Int) (x1 : Int) (h_x0 : z_n x0) (h_x1 : z_n x1) (rr : Int) (hm : m_X5_power N x0 x1 = some (rr)) : z_M l G yX5_power cX5_power 4 (some .int) (k2_rm 0 0) [z_i x0, z_i x1] ([]) 0 0 (fun v w => v = some (z_i rr) ∧ w = [] ∧ z_n rr ∧ True) := by
  unfold m_X5_power at hm
  refine z_M.intro (by decide +kernel) (Nat.le_of_ble_eq_true rfl) (L := [(0, z_i x0), (1, z_i x1)]) rfl (fun X C E => ?_)
  refine z_iconst C dX5_power_0 ?_
  refine z_istore_n C dX5_power_1 (by decide) (L' := [(2, z_i 1), (0, z_i x0), (1, z_i x1)]) rfl ?_
  refine z_iconst C dX5_power_2 ?_
  refine z_istore_n C dX5_power_3 (by decide) (L' := [(3, z_i 0), (2, z_i 1), (0, z_i x0), (1, z_i x1)]) rfl ?_
  obtain ⟨o2_1, hl, hm⟩ := z_b1s hm
  have JX1 : z_n o2_1 → z_J X 0 0 ([]) [(2, z_i o2_1)] 19 [] := by
    intro h_o2_1
    clear hl
    refine z_iload_n C dX5_power_19 0 rfl ?_
    cases hm
    exact z_iret C E dX5_power_20 ⟨rfl, rfl, h_o2_1, trivial⟩
  clear hm
  have L1 : ∀ (n1 : Nat) (v2_1 : Int) (v3_1 : Int), z_n v2_1 → z_n v3_1 → m_X5_power_l1 N x1 x0 n1 v2_1 v3_1 = some (o2_1) → z_J X 0 0 ([]) [(0, z_i x0), (1, z_i x1), (2, z_i v2_1), (3, z_i v3_1)] 4 [] := by
    clear hl
    intro n1
    induction n1 with
    | zero =>
      intro v2_1 v3_1 h_v2_1 h_v3_1 hm
      rw [m_X5_power_l1] at hm
      cases hm
    | succ n1 ih1 =>
      intro v2_1 v3_1 h_v2_1 h_v3_1 hm
      rw [m_X5_power_l1] at hm
      refine z_iload_n C dX5_power_4 3 rfl ?_
      refine z_iload_n C dX5_power_5 1 rfl ?_
      refine z_icmp_ge (tgt := 19) C h_v3_1 h_x1 dX5_power_6 (by decide) (fun c1 => ?_) (fun c1 => ?_)
      · have hm := z_pos c1 hm
        refine z_sub (L' := [(2, z_i v2_1)]) [2] rfl ?_
        cases hm
        exact JX1 h_v2_1
      · have hm := z_neg c1 hm
        refine z_iload_n C dX5_power_9 2 rfl ?_
        refine z_iload_n C dX5_power_10 0 rfl ?_
        obtain ⟨c2, hm⟩ := z_chk_some hm
        refine z_imul C dX5_power_11 ?_
        refine z_istore_n C dX5_power_12 (by decide) (L' := [(2, z_i (v2_1 * x0)), (0, z_i x0), (1, z_i x1), (3, z_i v3_1)]) rfl ?_
        obtain ⟨c3, hm⟩ := z_chk_some hm
        refine z_iinc C dX5_power_13 3 rfl (by decide) (L' := [(3, z_i (v3_1 + 1)), (2, z_i (v2_1 * x0)), (0, z_i x0), (1, z_i x1)]) rfl ?_
        refine z_goto (tgt := 4) C dX5_power_16 (by decide) ?_
        refine z_sub (L' := [(0, z_i x0), (1, z_i x1), (2, z_i (v2_1 * x0)), (3, z_i (v3_1 + 1))]) [2, 3, 1, 0] rfl ?_
        exact ih1 (v2_1 * x0) (v3_1 + 1) c2 c3 hm
  refine z_sub (L' := [(0, z_i x0), (1, z_i x1), (2, z_i 1), (3, z_i 0)]) [2, 3, 1, 0] rfl ?_
  exact L1 N 1 0 (z_k 1 rfl) (z_k 0 rfl) hl
set_option maxRecDepth 100000 in
theorem k_X5_sun (l : Launch) (G : z_G) (N : Nat) (m_o tx_o gr_o nw_o og_o la_o ss_o un_o kp_o m_AringCell m_AringDrops gr_Akind gr_Abeside gr_AbesideBits nw_Aheight nw_Adrops la_Aheight la_Adrops : Nat) (m_ringCell : (Int → Int)) (m_ringDrops : (Int → Int)) (m_rings : Int) (gr_rows : Int) (gr_columns : Int) (gr_cells : Int) (gr_kind : (Int → Int)) (gr_beside : (Int → Int)) (gr_besideBits : (Int → Int64)) (nw_height : (Int → Int)) (nw_drops : (Int → Int)) (nw_hours : Int) (nw_restless : Int64) (la_height : (Int → Int)) (la_drops : (Int → Int)) (la_hours : Int) (la_restless : Int64) (x1 : Int) (x2 : Int) (x3 : Int) (x4 : Int) (h_m_ringCell : z_r m_ringCell) (h_m_ringDrops : z_r m_ringDrops) (h_m_rings : z_n m_rings) (h_gr_rows : z_n gr_rows) (h_gr_columns : z_n gr_columns) (h_gr_cells : z_n gr_cells) (h_gr_kind : z_r gr_kind) (h_gr_beside : z_r gr_beside) (h_nw_height : z_r nw_height) (h_nw_drops : z_r nw_drops) (h_nw_hours : z_n nw_hours) (h_la_height : z_r la_height) (h_la_drops : z_r la_drops) (h_la_hours : z_n la_hours) (h_x1 : z_n x1) (h_x2 : z_n x2) (h_x3 : z_n x3) (h_x4 : z_n x4) (rr : Int) (q_la_height : (Int → Int)) (q_la_drops : (Int → Int)) (q_la_hours : Int) (q_la_restless : Int64) (hm : m_X5_sun N gr_cells gr_kind gr_beside gr_besideBits nw_height nw_drops nw_hours la_height la_drops la_hours la_restless x1 x2 x3 x4 = some (rr, q_la_height, q_la_drops, q_la_hours, q_la_restless)) : z_M l G yX5_sun cX5_sun 9 (some .int) (k2_rm 8 180) [.ref m_o, z_i x1, z_i x2, z_i x3, z_i x4] (w_X5 G m_o tx_o gr_o nw_o og_o la_o ss_o un_o kp_o m_AringCell m_AringDrops m_ringCell m_ringDrops m_rings ++ (w_X0 G gr_o gr_Akind gr_Abeside gr_AbesideBits gr_rows gr_columns gr_cells gr_kind gr_beside gr_besideBits ++ (w_X4 G nw_o nw_Aheight nw_Adrops nw_height nw_drops nw_hours nw_restless ++ w_X4 G la_o la_Aheight la_Adrops la_height la_drops la_hours la_restless))) 0 0 (fun v w => v = some (z_i rr) ∧ w = w_X5 G m_o tx_o gr_o nw_o og_o la_o ss_o un_o kp_o m_AringCell m_AringDrops m_ringCell m_ringDrops m_rings ++ (w_X0 G gr_o gr_Akind gr_Abeside gr_AbesideBits gr_rows gr_columns gr_cells gr_kind gr_beside gr_besideBits ++ (w_X4 G nw_o nw_Aheight nw_Adrops nw_height nw_drops nw_hours nw_restless ++ w_X4 G la_o la_Aheight la_Adrops q_la_height q_la_drops q_la_hours q_la_restless)) ∧ z_n rr ∧ z_r q_la_height ∧ z_r q_la_drops ∧ z_n q_la_hours ∧ True) := by
  unfold m_X5_sun at hm
  refine z_M.intro (by decide +kernel) (Nat.le_of_ble_eq_true rfl) (L := [(0, .ref m_o), (1, z_i x1), (2, z_i x2), (3, z_i x3), (4, z_i x4)]) rfl (fun X C E => ?_)
  refine z_aload_n C dX5_sun_0 0 rfl ?_
  refine z_get C zf_X5_21 dX5_sun_1 0 rfl rfl ?_
  refine z_iload_n C dX5_sun_4 1 rfl ?_
  obtain ⟨r1, k2, hm⟩ := z_b1s hm
  refine z_callVi C (k_X0_holds l G N gr_o gr_Akind gr_Abeside gr_AbesideBits gr_rows gr_columns gr_cells gr_kind gr_beside gr_besideBits x1 h_gr_rows h_gr_columns h_gr_cells h_gr_kind h_gr_beside h_x1 r1 k2) zv_X0_holds zl_X5_98 dX5_sun_5 [3, 4, 5, 6] rfl rfl rfl (ws' := w_X5 G m_o tx_o gr_o nw_o og_o la_o ss_o un_o kp_o m_AringCell m_AringDrops m_ringCell m_ringDrops m_rings ++ (w_X0 G gr_o gr_Akind gr_Abeside gr_AbesideBits gr_rows gr_columns gr_cells gr_kind gr_beside gr_besideBits ++ (w_X4 G nw_o nw_Aheight nw_Adrops nw_height nw_drops nw_hours nw_restless ++ w_X4 G la_o la_Aheight la_Adrops la_height la_drops la_hours la_restless))) rfl 3 rfl rfl rfl [] rfl (Nat.le_of_ble_eq_true rfl) ⟨Nat.le_of_ble_eq_true rfl, Nat.le_of_ble_eq_true rfl⟩ ⟨rfl, rfl⟩ ⟨Nat.zero_le _, Nat.zero_le _⟩ (fun hF => ?_)
  obtain ⟨hb_r1, -⟩ := hF
  refine z_if_eq (tgt := 41) C (z_n01 hb_r1) dX5_sun_8 (by decide) (fun c3 => ?_) (fun c3 => ?_)
  · have hm := z_pos c3 hm
    refine z_iconst C dX5_sun_41 ?_
    cases hm
    exact z_iret C E dX5_sun_42 ⟨rfl, rfl, (z_k (-1) rfl), h_la_height, h_la_drops, h_la_hours, trivial⟩
  · have hm := z_neg c3 hm
    refine z_iload_n C dX5_sun_11 2 rfl ?_
    refine z_iconst C dX5_sun_12 ?_
    refine z_bipush C dX5_sun_13 (by decide) ?_
    obtain ⟨r4, k5, hm⟩ := z_b1s hm
    refine z_callSi C (k_X5_isFrom l G N x2 0 6 h_x2 (z_k 0 rfl) (z_k 6 rfl) r4 k5) zs_X5_isFrom zl_X5_102 dX5_sun_15 [] rfl rfl rfl (ws' := w_X5 G m_o tx_o gr_o nw_o og_o la_o ss_o un_o kp_o m_AringCell m_AringDrops m_ringCell m_ringDrops m_rings ++ (w_X0 G gr_o gr_Akind gr_Abeside gr_AbesideBits gr_rows gr_columns gr_cells gr_kind gr_beside gr_besideBits ++ (w_X4 G nw_o nw_Aheight nw_Adrops nw_height nw_drops nw_hours nw_restless ++ w_X4 G la_o la_Aheight la_Adrops la_height la_drops la_hours la_restless))) rfl rfl [] rfl (Nat.le_of_ble_eq_true rfl) ⟨Nat.le_of_ble_eq_true rfl, Nat.le_of_ble_eq_true rfl⟩ ⟨rfl, rfl⟩ ⟨Nat.zero_le _, Nat.zero_le _⟩ (fun hF => ?_)
    obtain ⟨hb_r4, -⟩ := hF
    refine z_if_eq (tgt := 41) C (z_n01 hb_r4) dX5_sun_18 (by decide) (fun c6 => ?_) (fun c6 => ?_)
    · have hm := z_pos c6 hm
      refine z_iconst C dX5_sun_41 ?_
      cases hm
      exact z_iret C E dX5_sun_42 ⟨rfl, rfl, (z_k (-1) rfl), h_la_height, h_la_drops, h_la_hours, trivial⟩
    · have hm := z_neg c6 hm
      refine z_iload_n C dX5_sun_21 3 rfl ?_
      refine z_iconst C dX5_sun_22 ?_
      refine z_bipush C dX5_sun_23 (by decide) ?_
      obtain ⟨r7, k8, hm⟩ := z_b1s hm
      refine z_callSi C (k_X5_isFrom l G N x3 0 10 h_x3 (z_k 0 rfl) (z_k 10 rfl) r7 k8) zs_X5_isFrom zl_X5_102 dX5_sun_25 [] rfl rfl rfl (ws' := w_X5 G m_o tx_o gr_o nw_o og_o la_o ss_o un_o kp_o m_AringCell m_AringDrops m_ringCell m_ringDrops m_rings ++ (w_X0 G gr_o gr_Akind gr_Abeside gr_AbesideBits gr_rows gr_columns gr_cells gr_kind gr_beside gr_besideBits ++ (w_X4 G nw_o nw_Aheight nw_Adrops nw_height nw_drops nw_hours nw_restless ++ w_X4 G la_o la_Aheight la_Adrops la_height la_drops la_hours la_restless))) rfl rfl [] rfl (Nat.le_of_ble_eq_true rfl) ⟨Nat.le_of_ble_eq_true rfl, Nat.le_of_ble_eq_true rfl⟩ ⟨rfl, rfl⟩ ⟨Nat.zero_le _, Nat.zero_le _⟩ (fun hF => ?_)
      obtain ⟨hb_r7, -⟩ := hF
      refine z_if_eq (tgt := 41) C (z_n01 hb_r7) dX5_sun_28 (by decide) (fun c9 => ?_) (fun c9 => ?_)
      · have hm := z_pos c9 hm
        refine z_iconst C dX5_sun_41 ?_
        cases hm
        exact z_iret C E dX5_sun_42 ⟨rfl, rfl, (z_k (-1) rfl), h_la_height, h_la_drops, h_la_hours, trivial⟩
      · have hm := z_neg c9 hm
        refine z_iload C dX5_sun_31 4 rfl ?_
        refine z_iconst C dX5_sun_33 ?_
        refine z_iconst C dX5_sun_34 ?_
        obtain ⟨r10, k11, hm⟩ := z_b1s hm
        refine z_callSi C (k_X5_isFrom l G N x4 0 1 h_x4 (z_k 0 rfl) (z_k 1 rfl) r10 k11) zs_X5_isFrom zl_X5_102 dX5_sun_35 [] rfl rfl rfl (ws' := w_X5 G m_o tx_o gr_o nw_o og_o la_o ss_o un_o kp_o m_AringCell m_AringDrops m_ringCell m_ringDrops m_rings ++ (w_X0 G gr_o gr_Akind gr_Abeside gr_AbesideBits gr_rows gr_columns gr_cells gr_kind gr_beside gr_besideBits ++ (w_X4 G nw_o nw_Aheight nw_Adrops nw_height nw_drops nw_hours nw_restless ++ w_X4 G la_o la_Aheight la_Adrops la_height la_drops la_hours la_restless))) rfl rfl [] rfl (Nat.le_of_ble_eq_true rfl) ⟨Nat.le_of_ble_eq_true rfl, Nat.le_of_ble_eq_true rfl⟩ ⟨rfl, rfl⟩ ⟨Nat.zero_le _, Nat.zero_le _⟩ (fun hF => ?_)
        obtain ⟨hb_r10, -⟩ := hF
        refine z_if_ne (tgt := 43) C (z_n01 hb_r10) dX5_sun_38 (by decide) (fun c12 => ?_) (fun c12 => ?_)
        · have hm := z_pos c12 hm
          refine z_aload_n C dX5_sun_43 0 rfl ?_
          refine z_iload_n C dX5_sun_44 1 rfl ?_
          refine z_iload_n C dX5_sun_45 2 rfl ?_
          obtain ⟨r13, la_height_14, la_drops_15, la_hours_16, la_restless_17, k18, hm⟩ := z_b5s hm
          refine z_callVi C (k_X5_wetBehindHours l G N m_o tx_o gr_o nw_o og_o la_o ss_o un_o kp_o m_AringCell m_AringDrops gr_Akind gr_Abeside gr_AbesideBits nw_Aheight nw_Adrops la_Aheight la_Adrops m_ringCell m_ringDrops m_rings gr_rows gr_columns gr_cells gr_kind gr_beside gr_besideBits nw_height nw_drops nw_hours nw_restless la_height la_drops la_hours la_restless x1 x2 h_m_ringCell h_m_ringDrops h_m_rings h_gr_rows h_gr_columns h_gr_cells h_gr_kind h_gr_beside h_nw_height h_nw_drops h_nw_hours h_la_height h_la_drops h_la_hours h_x1 h_x2 r13 la_height_14 la_drops_15 la_hours_16 la_restless_17 k18) zv_X5_wetBehindHours zl_X5_209 dX5_sun_46 [0, 1, 2, 3, 4, 5, 6, 7, 8, 9, 10, 11, 12] rfl rfl rfl (ws' := w_X5 G m_o tx_o gr_o nw_o og_o la_o ss_o un_o kp_o m_AringCell m_AringDrops m_ringCell m_ringDrops m_rings ++ (w_X0 G gr_o gr_Akind gr_Abeside gr_AbesideBits gr_rows gr_columns gr_cells gr_kind gr_beside gr_besideBits ++ (w_X4 G nw_o nw_Aheight nw_Adrops nw_height nw_drops nw_hours nw_restless ++ w_X4 G la_o la_Aheight la_Adrops la_height_14 la_drops_15 la_hours_16 la_restless_17))) rfl 0 rfl rfl rfl [] rfl (Nat.le_of_ble_eq_true rfl) ⟨Nat.le_of_ble_eq_true rfl, Nat.le_of_ble_eq_true rfl⟩ ⟨rfl, rfl⟩ ⟨Nat.zero_le _, Nat.zero_le _⟩ (fun hF => ?_)
          obtain ⟨h_r13, h_la_height_14, h_la_drops_15, h_la_hours_16, -⟩ := hF
          refine z_istore C dX5_sun_49 (by decide) (L' := [(5, z_i r13), (0, .ref m_o), (1, z_i x1), (2, z_i x2), (3, z_i x3), (4, z_i x4)]) rfl ?_
          refine z_iconst C dX5_sun_51 ?_
          refine z_istore C dX5_sun_52 (by decide) (L' := [(6, z_i 0), (5, z_i r13), (0, .ref m_o), (1, z_i x1), (2, z_i x2), (3, z_i x3), (4, z_i x4)]) rfl ?_
          refine z_iconst C dX5_sun_54 ?_
          refine z_istore C dX5_sun_55 (by decide) (L' := [(7, z_i 0), (6, z_i 0), (5, z_i r13), (0, .ref m_o), (1, z_i x1), (2, z_i x2), (3, z_i x3), (4, z_i x4)]) rfl ?_
          obtain ⟨o6_1, hl, hm⟩ := z_b1s hm
          have JX1 : z_n o6_1 → z_J X 0 0 (w_X5 G m_o tx_o gr_o nw_o og_o la_o ss_o un_o kp_o m_AringCell m_AringDrops m_ringCell m_ringDrops m_rings ++ (w_X0 G gr_o gr_Akind gr_Abeside gr_AbesideBits gr_rows gr_columns gr_cells gr_kind gr_beside gr_besideBits ++ (w_X4 G nw_o nw_Aheight nw_Adrops nw_height nw_drops nw_hours nw_restless ++ w_X4 G la_o la_Aheight la_Adrops la_height_14 la_drops_15 la_hours_16 la_restless_17))) [(2, z_i x2), (4, z_i x4), (6, z_i o6_1)] 112 [] := by
            intro h_o6_1
            clear hl
            refine z_iload C dX5_sun_112 2 rfl ?_
            refine z_bipush C dX5_sun_114 (by decide) ?_
            refine z_iload_n C dX5_sun_116 0 rfl ?_
            obtain ⟨r33, k34, hm⟩ := z_b1s hm
            refine z_callSi C (k_X5_power l G N 10 x2 (z_k 10 rfl) h_x2 r33 k34) zs_X5_power zl_X5_216 dX5_sun_117 [] rfl rfl rfl (ws' := w_X5 G m_o tx_o gr_o nw_o og_o la_o ss_o un_o kp_o m_AringCell m_AringDrops m_ringCell m_ringDrops m_rings ++ (w_X0 G gr_o gr_Akind gr_Abeside gr_AbesideBits gr_rows gr_columns gr_cells gr_kind gr_beside gr_besideBits ++ (w_X4 G nw_o nw_Aheight nw_Adrops nw_height nw_drops nw_hours nw_restless ++ w_X4 G la_o la_Aheight la_Adrops la_height_14 la_drops_15 la_hours_16 la_restless_17))) rfl rfl [z_i o6_1] rfl (Nat.le_of_ble_eq_true rfl) ⟨Nat.le_of_ble_eq_true rfl, Nat.le_of_ble_eq_true rfl⟩ ⟨rfl, rfl⟩ ⟨Nat.zero_le _, Nat.zero_le _⟩ (fun hF => ?_)
            obtain ⟨h_r33, -⟩ := hF
            refine z_iload C dX5_sun_120 1 rfl ?_
            obtain ⟨r35, k36, hm⟩ := z_b1s hm
            refine z_callSi C (k_X5_lowestTerms l G N o6_1 r33 x4 h_o6_1 h_r33 h_x4 r35 k36) zs_X5_lowestTerms zl_X5_205 dX5_sun_122 [] rfl rfl rfl (ws' := w_X5 G m_o tx_o gr_o nw_o og_o la_o ss_o un_o kp_o m_AringCell m_AringDrops m_ringCell m_ringDrops m_rings ++ (w_X0 G gr_o gr_Akind gr_Abeside gr_AbesideBits gr_rows gr_columns gr_cells gr_kind gr_beside gr_besideBits ++ (w_X4 G nw_o nw_Aheight nw_Adrops nw_height nw_drops nw_hours nw_restless ++ w_X4 G la_o la_Aheight la_Adrops la_height_14 la_drops_15 la_hours_16 la_restless_17))) rfl rfl [] rfl (Nat.le_of_ble_eq_true rfl) ⟨Nat.le_of_ble_eq_true rfl, Nat.le_of_ble_eq_true rfl⟩ ⟨rfl, rfl⟩ ⟨Nat.zero_le _, Nat.zero_le _⟩ (fun hF => ?_)
            obtain ⟨h_r35, -⟩ := hF
            cases hm
            exact z_iret C E dX5_sun_125 ⟨rfl, rfl, h_r35, h_la_height_14, h_la_drops_15, h_la_hours_16, trivial⟩
          clear hm
          have L1 : ∀ (n1 : Nat) (v6_1 : Int) (v7_1 : Int), z_n v6_1 → z_n v7_1 → m_X5_sun_l1 N x2 r13 x3 n1 v6_1 v7_1 = some (o6_1) → z_J X 0 0 (w_X5 G m_o tx_o gr_o nw_o og_o la_o ss_o un_o kp_o m_AringCell m_AringDrops m_ringCell m_ringDrops m_rings ++ (w_X0 G gr_o gr_Akind gr_Abeside gr_AbesideBits gr_rows gr_columns gr_cells gr_kind gr_beside gr_besideBits ++ (w_X4 G nw_o nw_Aheight nw_Adrops nw_height nw_drops nw_hours nw_restless ++ w_X4 G la_o la_Aheight la_Adrops la_height_14 la_drops_15 la_hours_16 la_restless_17))) [(2, z_i x2), (3, z_i x3), (4, z_i x4), (5, z_i r13), (6, z_i v6_1), (7, z_i v7_1)] 57 [] := by
            clear hl
            intro n1
            induction n1 with
            | zero =>
              intro v6_1 v7_1 h_v6_1 h_v7_1 hm
              rw [m_X5_sun_l1] at hm
              cases hm
            | succ n1 ih1 =>
              intro v6_1 v7_1 h_v6_1 h_v7_1 hm
              rw [m_X5_sun_l1] at hm
              refine z_iload C dX5_sun_57 5 rfl ?_
              refine z_iconst C dX5_sun_59 ?_
              refine z_iload_n C dX5_sun_60 0 rfl ?_
              refine z_ishl C dX5_sun_61 ?_
              refine z_icmp_ge (tgt := 112) C h_v7_1 (z_n_shl 1 x2) dX5_sun_62 (by decide) (fun c19 => ?_) (fun c19 => ?_)
              · have hm := z_pos c19 hm
                refine z_sub (L' := [(2, z_i x2), (4, z_i x4), (6, z_i v6_1)]) [0, 2, 4] rfl ?_
                cases hm
                exact JX1 h_v6_1
              · have hm := z_neg c19 hm
                refine z_iload C dX5_sun_65 5 rfl ?_
                obtain ⟨r20, k21, hm⟩ := z_b1s hm
                refine z_callSi C (k_J6_bitCount_0f7a4 l G N v7_1 h_v7_1 r20 k21) zs_J6_bitCount_0f7a4 zl_X5_213 dX5_sun_67 [] rfl rfl rfl (ws' := w_X5 G m_o tx_o gr_o nw_o og_o la_o ss_o un_o kp_o m_AringCell m_AringDrops m_ringCell m_ringDrops m_rings ++ (w_X0 G gr_o gr_Akind gr_Abeside gr_AbesideBits gr_rows gr_columns gr_cells gr_kind gr_beside gr_besideBits ++ (w_X4 G nw_o nw_Aheight nw_Adrops nw_height nw_drops nw_hours nw_restless ++ w_X4 G la_o la_Aheight la_Adrops la_height_14 la_drops_15 la_hours_16 la_restless_17))) rfl rfl [] rfl (Nat.le_of_ble_eq_true rfl) ⟨Nat.le_of_ble_eq_true rfl, Nat.le_of_ble_eq_true rfl⟩ ⟨rfl, rfl⟩ ⟨Nat.zero_le _, Nat.zero_le _⟩ (fun hF => ?_)
                obtain ⟨h_r20, -⟩ := hF
                refine z_istore C dX5_sun_70 (by decide) (L' := [(8, z_i r20), (2, z_i x2), (3, z_i x3), (4, z_i x4), (5, z_i r13), (6, z_i v6_1), (7, z_i v7_1)]) rfl ?_
                refine z_iload C dX5_sun_72 4 rfl ?_
                refine z_iload C dX5_sun_74 0 rfl ?_
                refine z_ishr C dX5_sun_76 ?_
                refine z_iconst C dX5_sun_77 ?_
                refine z_iand C dX5_sun_78 ?_
                refine z_iconst C dX5_sun_79 ?_
                refine z_icmp_ne (tgt := 106) C (z_n_and (z_shr r13 r20) 1) (z_k 1 rfl) dX5_sun_80 (by decide) (fun c22 => ?_) (fun c22 => ?_)
                · have hm := z_pos c22 hm
                  obtain ⟨c23, hm⟩ := z_chk_some hm
                  refine z_iinc C dX5_sun_106 6 rfl (by decide) (L' := [(7, z_i (v7_1 + 1)), (8, z_i r20), (2, z_i x2), (3, z_i x3), (4, z_i x4), (5, z_i r13), (6, z_i v6_1)]) rfl ?_
                  refine z_goto (tgt := 57) C dX5_sun_109 (by decide) ?_
                  refine z_sub (L' := [(2, z_i x2), (3, z_i x3), (4, z_i x4), (5, z_i r13), (6, z_i v6_1), (7, z_i (v7_1 + 1))]) [2, 3, 4, 5, 6, 0] rfl ?_
                  exact ih1 v6_1 (v7_1 + 1) h_v6_1 c23 hm
                · have hm := z_neg c22 hm
                  refine z_iload C dX5_sun_83 5 rfl ?_
                  refine z_iload_n C dX5_sun_85 2 rfl ?_
                  refine z_iload C dX5_sun_86 0 rfl ?_
                  obtain ⟨r24, k25, hm⟩ := z_b1s hm
                  refine z_callSi C (k_X5_power l G N x3 r20 h_x3 h_r20 r24 k25) zs_X5_power zl_X5_216 dX5_sun_88 [] rfl rfl rfl (ws' := w_X5 G m_o tx_o gr_o nw_o og_o la_o ss_o un_o kp_o m_AringCell m_AringDrops m_ringCell m_ringDrops m_rings ++ (w_X0 G gr_o gr_Akind gr_Abeside gr_AbesideBits gr_rows gr_columns gr_cells gr_kind gr_beside gr_besideBits ++ (w_X4 G nw_o nw_Aheight nw_Adrops nw_height nw_drops nw_hours nw_restless ++ w_X4 G la_o la_Aheight la_Adrops la_height_14 la_drops_15 la_hours_16 la_restless_17))) rfl rfl [z_i v6_1] rfl (Nat.le_of_ble_eq_true rfl) ⟨Nat.le_of_ble_eq_true rfl, Nat.le_of_ble_eq_true rfl⟩ ⟨rfl, rfl⟩ ⟨Nat.zero_le _, Nat.zero_le _⟩ (fun hF => ?_)
                  obtain ⟨h_r24, -⟩ := hF
                  refine z_bipush C dX5_sun_91 (by decide) ?_
                  refine z_iload_n C dX5_sun_93 2 rfl ?_
                  obtain ⟨c26, hm⟩ := z_chk_some hm
                  refine z_isub C dX5_sun_94 ?_
                  refine z_iload_n C dX5_sun_95 1 rfl ?_
                  refine z_iload C dX5_sun_96 0 rfl ?_
                  obtain ⟨c27, hm⟩ := z_chk_some hm
                  refine z_isub C dX5_sun_98 ?_
                  obtain ⟨r28, k29, hm⟩ := z_b1s hm
                  refine z_callSi C (k_X5_power l G N (10 - x3) (x2 - r20) c26 c27 r28 k29) zs_X5_power zl_X5_216 dX5_sun_99 [] rfl rfl rfl (ws' := w_X5 G m_o tx_o gr_o nw_o og_o la_o ss_o un_o kp_o m_AringCell m_AringDrops m_ringCell m_ringDrops m_rings ++ (w_X0 G gr_o gr_Akind gr_Abeside gr_AbesideBits gr_rows gr_columns gr_cells gr_kind gr_beside gr_besideBits ++ (w_X4 G nw_o nw_Aheight nw_Adrops nw_height nw_drops nw_hours nw_restless ++ w_X4 G la_o la_Aheight la_Adrops la_height_14 la_drops_15 la_hours_16 la_restless_17))) rfl rfl [z_i r24, z_i v6_1] rfl (Nat.le_of_ble_eq_true rfl) ⟨Nat.le_of_ble_eq_true rfl, Nat.le_of_ble_eq_true rfl⟩ ⟨rfl, rfl⟩ ⟨Nat.zero_le _, Nat.zero_le _⟩ (fun hF => ?_)
                  obtain ⟨h_r28, -⟩ := hF
                  obtain ⟨c30, hm⟩ := z_chk_some hm
                  refine z_imul C dX5_sun_102 ?_
                  obtain ⟨c31, hm⟩ := z_chk_some hm
                  refine z_iadd C dX5_sun_103 ?_
                  refine z_istore C dX5_sun_104 (by decide) (L' := [(6, z_i (v6_1 + (r24 * r28))), (8, z_i r20), (2, z_i x2), (3, z_i x3), (4, z_i x4), (5, z_i r13), (7, z_i v7_1)]) rfl ?_
                  obtain ⟨c32, hm⟩ := z_chk_some hm
                  refine z_iinc C dX5_sun_106 6 rfl (by decide) (L' := [(7, z_i (v7_1 + 1)), (6, z_i (v6_1 + (r24 * r28))), (8, z_i r20), (2, z_i x2), (3, z_i x3), (4, z_i x4), (5, z_i r13)]) rfl ?_
                  refine z_goto (tgt := 57) C dX5_sun_109 (by decide) ?_
                  refine z_sub (L' := [(2, z_i x2), (3, z_i x3), (4, z_i x4), (5, z_i r13), (6, z_i (v6_1 + (r24 * r28))), (7, z_i (v7_1 + 1))]) [3, 4, 5, 6, 1, 0] rfl ?_
                  exact ih1 (v6_1 + (r24 * r28)) (v7_1 + 1) c31 c32 hm
          refine z_sub (L' := [(2, z_i x2), (3, z_i x3), (4, z_i x4), (5, z_i r13), (6, z_i 0), (7, z_i 0)]) [5, 6, 7, 2, 1, 0] rfl ?_
          exact L1 N 0 0 (z_k 0 rfl) (z_k 0 rfl) hl
        · have hm := z_neg c12 hm
          refine z_iconst C dX5_sun_41 ?_
          cases hm
          exact z_iret C E dX5_sun_42 ⟨rfl, rfl, (z_k (-1) rfl), h_la_height, h_la_drops, h_la_hours, trivial⟩
set_option maxRecDepth 100000 in
theorem k_X5_drawOf (l : Launch) (G : z_G) (N : Nat) (x0 : Int) (x1 : Int) (h_x0 : z_n x0) (h_x1 : z_n x1) (rr : Int) (hm : m_X5_drawOf N x0 x1 = some (rr)) : z_M l G yX5_drawOf cX5_drawOf 4 (some .int) (k2_rm 0 0) [z_i x0, z_i x1] ([]) 0 0 (fun v w => v = some (z_i rr) ∧ w = [] ∧ z_n rr ∧ True) := by
  unfold m_X5_drawOf at hm
  refine z_M.intro (by decide +kernel) (Nat.le_of_ble_eq_true rfl) (L := [(0, z_i x0), (1, z_i x1)]) rfl (fun X C E => ?_)
  refine z_ldc2 C zc_X5_229 dX5_drawOf_0 ?_
  refine z_iload_n C dX5_drawOf_3 0 rfl ?_
  refine z_i2lR C dX5_drawOf_4 ?_
  refine z_lmul C dX5_drawOf_5 ?_
  refine z_ldc2 C zc_X5_231 dX5_drawOf_6 ?_
  refine z_iload_n C dX5_drawOf_9 1 rfl ?_
  refine z_i2lR C dX5_drawOf_10 ?_
  refine z_lmul C dX5_drawOf_11 ?_
  refine z_ladd C dX5_drawOf_12 ?_
  refine z_lconst (v := (1 : Int64)) C dX5_drawOf_13 (by decide) ?_
  refine z_ladd C dX5_drawOf_14 ?_
  refine z_lstore_n C dX5_drawOf_15 (by decide) (L' := [(2, .long ((((7919 : Int64) * (z_i2l x0)) + ((6151 : Int64) * (z_i2l x1))) + (1 : Int64))), (0, z_i x0), (1, z_i x1)]) rfl ?_
  refine z_lload_n C dX5_drawOf_16 0 rfl ?_
  refine z_lload_n C dX5_drawOf_17 0 rfl ?_
  refine z_lmul C dX5_drawOf_18 ?_
  refine z_ldc2 C zc_X5_233 dX5_drawOf_19 ?_
  refine z_lremR C (by decide) dX5_drawOf_22 ?_
  refine z_ldc2 C zc_X5_235 dX5_drawOf_23 ?_
  refine z_ldivR C (by decide) dX5_drawOf_26 ?_
  refine z_l2iR C dX5_drawOf_27 ?_
  cases hm
  exact z_iret C E dX5_drawOf_28 ⟨rfl, rfl, (z_n_l2i ((z_lrem (((((7919 : Int64) * (z_i2l x0)) + ((6151 : Int64) * (z_i2l x1))) + (1 : Int64)) * ((((7919 : Int64) * (z_i2l x0)) + ((6151 : Int64) * (z_i2l x1))) + (1 : Int64))) (65521 : Int64)) / (8 : Int64))), trivial⟩
set_option maxRecDepth 100000 in
theorem k_X5_year (l : Launch) (G : z_G) (N : Nat) (m_o tx_o gr_o nw_o og_o la_o ss_o un_o kp_o m_AringCell m_AringDrops gr_Akind gr_Abeside gr_AbesideBits nw_Aheight nw_Adrops la_Aheight la_Adrops ss_Astate ss_Awaiting : Nat) (m_ringCell : (Int → Int)) (m_ringDrops : (Int → Int)) (m_rings : Int) (gr_rows : Int) (gr_columns : Int) (gr_cells : Int) (gr_kind : (Int → Int)) (gr_beside : (Int → Int)) (gr_besideBits : (Int → Int64)) (nw_height : (Int → Int)) (nw_drops : (Int → Int)) (nw_hours : Int) (nw_restless : Int64) (la_height : (Int → Int)) (la_drops : (Int → Int)) (la_hours : Int) (la_restless : Int64) (ss_state : (Int → Int)) (ss_waiting : (Int → Int)) (ss_waits : Int) (ss_cells : Int) (ss_many : Int) (x1 : Int) (x2 : Int) (x3 : Int) (h_m_ringCell : z_r m_ringCell) (h_m_ringDrops : z_r m_ringDrops) (h_m_rings : z_n m_rings) (h_gr_rows : z_n gr_rows) (h_gr_columns : z_n gr_columns) (h_gr_cells : z_n gr_cells) (h_gr_kind : z_r gr_kind) (h_gr_beside : z_r gr_beside) (h_nw_height : z_r nw_height) (h_nw_drops : z_r nw_drops) (h_nw_hours : z_n nw_hours) (h_la_height : z_r la_height) (h_la_drops : z_r la_drops) (h_la_hours : z_n la_hours) (h_ss_state : z_r ss_state) (h_ss_waiting : z_r ss_waiting) (h_ss_waits : z_n ss_waits) (h_ss_cells : z_n ss_cells) (h_ss_many : z_n ss_many) (h_x1 : z_n x1) (h_x2 : z_n x2) (h_x3 : z_n x3) (rr : Int) (q_la_height : (Int → Int)) (q_la_drops : (Int → Int)) (q_la_hours : Int) (q_la_restless : Int64) (q_ss_state : (Int → Int)) (q_ss_waiting : (Int → Int)) (q_ss_waits : Int) (q_ss_cells : Int) (q_ss_many : Int) (hm : m_X5_year N gr_cells gr_kind gr_beside gr_besideBits nw_height nw_drops nw_hours la_height la_drops la_hours la_restless ss_state ss_waiting ss_waits ss_cells ss_many x1 x2 x3 = some (rr, q_la_height, q_la_drops, q_la_hours, q_la_restless, q_ss_state, q_ss_waiting, q_ss_waits, q_ss_cells, q_ss_many)) : z_M l G yX5_year cX5_year 6 (some .int) (k2_rm 7 156) [.ref m_o, z_i x1, z_i x2, z_i x3] (w_X5 G m_o tx_o gr_o nw_o og_o la_o ss_o un_o kp_o m_AringCell m_AringDrops m_ringCell m_ringDrops m_rings ++ (w_X0 G gr_o gr_Akind gr_Abeside gr_AbesideBits gr_rows gr_columns gr_cells gr_kind gr_beside gr_besideBits ++ (w_X4 G nw_o nw_Aheight nw_Adrops nw_height nw_drops nw_hours nw_restless ++ (w_X4 G la_o la_Aheight la_Adrops la_height la_drops la_hours la_restless ++ w_X2 G ss_o ss_Astate ss_Awaiting ss_state ss_waiting ss_waits ss_cells ss_many)))) 0 0 (fun v w => v = some (z_i rr) ∧ w = w_X5 G m_o tx_o gr_o nw_o og_o la_o ss_o un_o kp_o m_AringCell m_AringDrops m_ringCell m_ringDrops m_rings ++ (w_X0 G gr_o gr_Akind gr_Abeside gr_AbesideBits gr_rows gr_columns gr_cells gr_kind gr_beside gr_besideBits ++ (w_X4 G nw_o nw_Aheight nw_Adrops nw_height nw_drops nw_hours nw_restless ++ (w_X4 G la_o la_Aheight la_Adrops q_la_height q_la_drops q_la_hours q_la_restless ++ w_X2 G ss_o ss_Astate ss_Awaiting q_ss_state q_ss_waiting q_ss_waits q_ss_cells q_ss_many))) ∧ z_n rr ∧ z_r q_la_height ∧ z_r q_la_drops ∧ z_n q_la_hours ∧ z_r q_ss_state ∧ z_r q_ss_waiting ∧ z_n q_ss_waits ∧ z_n q_ss_cells ∧ z_n q_ss_many ∧ True) := by
  unfold m_X5_year at hm
  refine z_M.intro (by decide +kernel) (Nat.le_of_ble_eq_true rfl) (L := [(0, .ref m_o), (1, z_i x1), (2, z_i x2), (3, z_i x3)]) rfl (fun X C E => ?_)
  refine z_iload_n C dX5_year_0 1 rfl ?_
  refine z_iconst C dX5_year_1 ?_
  refine z_sipush C dX5_year_2 (by decide) ?_
  obtain ⟨r1, k2, hm⟩ := z_b1s hm
  refine z_callSi C (k_X5_isFrom l G N x1 0 9999 h_x1 (z_k 0 rfl) (z_k 9999 rfl) r1 k2) zs_X5_isFrom zl_X5_102 dX5_year_5 [] rfl rfl rfl (ws' := w_X5 G m_o tx_o gr_o nw_o og_o la_o ss_o un_o kp_o m_AringCell m_AringDrops m_ringCell m_ringDrops m_rings ++ (w_X0 G gr_o gr_Akind gr_Abeside gr_AbesideBits gr_rows gr_columns gr_cells gr_kind gr_beside gr_besideBits ++ (w_X4 G nw_o nw_Aheight nw_Adrops nw_height nw_drops nw_hours nw_restless ++ (w_X4 G la_o la_Aheight la_Adrops la_height la_drops la_hours la_restless ++ w_X2 G ss_o ss_Astate ss_Awaiting ss_state ss_waiting ss_waits ss_cells ss_many)))) rfl rfl [] rfl (Nat.le_of_ble_eq_true rfl) ⟨Nat.le_of_ble_eq_true rfl, Nat.le_of_ble_eq_true rfl⟩ ⟨rfl, rfl⟩ ⟨Nat.zero_le _, Nat.zero_le _⟩ (fun hF => ?_)
  obtain ⟨hb_r1, -⟩ := hF
  refine z_if_eq (tgt := 30) C (z_n01 hb_r1) dX5_year_8 (by decide) (fun c3 => ?_) (fun c3 => ?_)
  · have hm := z_pos c3 hm
    refine z_iconst C dX5_year_30 ?_
    cases hm
    exact z_iret C E dX5_year_31 ⟨rfl, rfl, (z_k (-1) rfl), h_la_height, h_la_drops, h_la_hours, h_ss_state, h_ss_waiting, h_ss_waits, h_ss_cells, h_ss_many, trivial⟩
  · have hm := z_neg c3 hm
    refine z_iload_n C dX5_year_11 2 rfl ?_
    refine z_iconst C dX5_year_12 ?_
    refine z_bipush C dX5_year_13 (by decide) ?_
    obtain ⟨r4, k5, hm⟩ := z_b1s hm
    refine z_callSi C (k_X5_isFrom l G N x2 1 30 h_x2 (z_k 1 rfl) (z_k 30 rfl) r4 k5) zs_X5_isFrom zl_X5_102 dX5_year_15 [] rfl rfl rfl (ws' := w_X5 G m_o tx_o gr_o nw_o og_o la_o ss_o un_o kp_o m_AringCell m_AringDrops m_ringCell m_ringDrops m_rings ++ (w_X0 G gr_o gr_Akind gr_Abeside gr_AbesideBits gr_rows gr_columns gr_cells gr_kind gr_beside gr_besideBits ++ (w_X4 G nw_o nw_Aheight nw_Adrops nw_height nw_drops nw_hours nw_restless ++ (w_X4 G la_o la_Aheight la_Adrops la_height la_drops la_hours la_restless ++ w_X2 G ss_o ss_Astate ss_Awaiting ss_state ss_waiting ss_waits ss_cells ss_many)))) rfl rfl [] rfl (Nat.le_of_ble_eq_true rfl) ⟨Nat.le_of_ble_eq_true rfl, Nat.le_of_ble_eq_true rfl⟩ ⟨rfl, rfl⟩ ⟨Nat.zero_le _, Nat.zero_le _⟩ (fun hF => ?_)
    obtain ⟨hb_r4, -⟩ := hF
    refine z_if_eq (tgt := 30) C (z_n01 hb_r4) dX5_year_18 (by decide) (fun c6 => ?_) (fun c6 => ?_)
    · have hm := z_pos c6 hm
      refine z_iconst C dX5_year_30 ?_
      cases hm
      exact z_iret C E dX5_year_31 ⟨rfl, rfl, (z_k (-1) rfl), h_la_height, h_la_drops, h_la_hours, h_ss_state, h_ss_waiting, h_ss_waits, h_ss_cells, h_ss_many, trivial⟩
    · have hm := z_neg c6 hm
      refine z_iload_n C dX5_year_21 3 rfl ?_
      refine z_iconst C dX5_year_22 ?_
      refine z_iconst C dX5_year_23 ?_
      obtain ⟨r7, k8, hm⟩ := z_b1s hm
      refine z_callSi C (k_X5_isFrom l G N x3 0 1 h_x3 (z_k 0 rfl) (z_k 1 rfl) r7 k8) zs_X5_isFrom zl_X5_102 dX5_year_24 [] rfl rfl rfl (ws' := w_X5 G m_o tx_o gr_o nw_o og_o la_o ss_o un_o kp_o m_AringCell m_AringDrops m_ringCell m_ringDrops m_rings ++ (w_X0 G gr_o gr_Akind gr_Abeside gr_AbesideBits gr_rows gr_columns gr_cells gr_kind gr_beside gr_besideBits ++ (w_X4 G nw_o nw_Aheight nw_Adrops nw_height nw_drops nw_hours nw_restless ++ (w_X4 G la_o la_Aheight la_Adrops la_height la_drops la_hours la_restless ++ w_X2 G ss_o ss_Astate ss_Awaiting ss_state ss_waiting ss_waits ss_cells ss_many)))) rfl rfl [] rfl (Nat.le_of_ble_eq_true rfl) ⟨Nat.le_of_ble_eq_true rfl, Nat.le_of_ble_eq_true rfl⟩ ⟨rfl, rfl⟩ ⟨Nat.zero_le _, Nat.zero_le _⟩ (fun hF => ?_)
      obtain ⟨hb_r7, -⟩ := hF
      refine z_if_ne (tgt := 32) C (z_n01 hb_r7) dX5_year_27 (by decide) (fun c9 => ?_) (fun c9 => ?_)
      · have hm := z_pos c9 hm
        refine z_aload_n C dX5_year_32 0 rfl ?_
        refine z_get C zf_X5_35 dX5_year_33 0 rfl rfl ?_
        refine z_aload_n C dX5_year_36 0 rfl ?_
        refine z_get C zf_X5_28 dX5_year_37 0 rfl rfl ?_
        obtain ⟨la_height_10, la_drops_11, la_hours_12, k13, hm⟩ := z_b3s hm
        refine z_callVv C (k_X4_copyFrom l G N la_o la_Aheight la_Adrops nw_o nw_Aheight nw_Adrops la_height la_drops la_hours la_restless nw_height nw_drops nw_hours nw_restless h_la_height h_la_drops h_la_hours h_nw_height h_nw_drops h_nw_hours la_height_10 la_drops_11 la_hours_12 k13) zv_X4_copyFrom zl_X5_164 dX5_year_40 [10, 11, 12, 7, 8, 9] rfl rfl rfl (ws' := w_X5 G m_o tx_o gr_o nw_o og_o la_o ss_o un_o kp_o m_AringCell m_AringDrops m_ringCell m_ringDrops m_rings ++ (w_X0 G gr_o gr_Akind gr_Abeside gr_AbesideBits gr_rows gr_columns gr_cells gr_kind gr_beside gr_besideBits ++ (w_X4 G nw_o nw_Aheight nw_Adrops nw_height nw_drops nw_hours nw_restless ++ (w_X4 G la_o la_Aheight la_Adrops la_height_10 la_drops_11 la_hours_12 la_restless ++ w_X2 G ss_o ss_Astate ss_Awaiting ss_state ss_waiting ss_waits ss_cells ss_many)))) rfl 10 rfl rfl rfl [] rfl (Nat.le_of_ble_eq_true rfl) ⟨Nat.le_of_ble_eq_true rfl, Nat.le_of_ble_eq_true rfl⟩ ⟨rfl, rfl⟩ ⟨Nat.zero_le _, Nat.zero_le _⟩ (fun hF => ?_)
        obtain ⟨h_la_height_10, h_la_drops_11, h_la_hours_12, -⟩ := hF
        refine z_iconst C dX5_year_43 ?_
        refine z_istore C dX5_year_44 (by decide) (L' := [(4, z_i 0), (0, .ref m_o), (1, z_i x1), (2, z_i x2), (3, z_i x3)]) rfl ?_
        obtain ⟨o_la_drops_1, o_la_hours_1, o_la_restless_1, hl, hm⟩ := z_b3s hm
        have JX1 : z_r o_la_drops_1 → z_n o_la_hours_1 → z_J X 0 0 (w_X5 G m_o tx_o gr_o nw_o og_o la_o ss_o un_o kp_o m_AringCell m_AringDrops m_ringCell m_ringDrops m_rings ++ (w_X0 G gr_o gr_Akind gr_Abeside gr_AbesideBits gr_rows gr_columns gr_cells gr_kind gr_beside gr_besideBits ++ (w_X4 G nw_o nw_Aheight nw_Adrops nw_height nw_drops nw_hours nw_restless ++ (w_X4 G la_o la_Aheight la_Adrops la_height_10 o_la_drops_1 o_la_hours_1 o_la_restless_1 ++ w_X2 G ss_o ss_Astate ss_Awaiting ss_state ss_waiting ss_waits ss_cells ss_many)))) [(0, .ref m_o), (3, z_i x3)] 98 [] := by
          intro h_o_la_drops_1 h_o_la_hours_1
          clear hl
          refine z_iload_n C dX5_year_98 1 rfl ?_
          refine z_iconst C dX5_year_99 ?_
          refine z_icmp_ne (tgt := 115) C h_x3 (z_k 1 rfl) dX5_year_100 (by decide) (fun c28 => ?_) (fun c28 => ?_)
          · have hm := z_pos c28 hm
            refine z_aload_n C dX5_year_115 0 rfl ?_
            refine z_get C zf_X5_41 dX5_year_116 0 rfl rfl ?_
            refine z_aload_n C dX5_year_119 0 rfl ?_
            refine z_get C zf_X5_21 dX5_year_120 0 rfl rfl ?_
            refine z_aload_n C dX5_year_123 0 rfl ?_
            refine z_get C zf_X5_35 dX5_year_124 0 rfl rfl ?_
            obtain ⟨ss_state_29, ss_waiting_30, ss_waits_31, ss_cells_32, ss_many_33, k34, hm⟩ := z_b5s hm
            refine z_callVv C (k_X2_map l G N ss_o ss_Astate ss_Awaiting gr_o gr_Akind gr_Abeside gr_AbesideBits la_o la_Aheight la_Adrops ss_state ss_waiting ss_waits ss_cells ss_many gr_rows gr_columns gr_cells gr_kind gr_beside gr_besideBits la_height_10 o_la_drops_1 o_la_hours_1 o_la_restless_1 h_ss_state h_ss_waiting h_ss_waits h_ss_cells h_ss_many h_gr_rows h_gr_columns h_gr_cells h_gr_kind h_gr_beside h_la_height_10 h_o_la_drops_1 h_o_la_hours_1 ss_state_29 ss_waiting_30 ss_waits_31 ss_cells_32 ss_many_33 k34) zv_X2_map zl_X5_115 dX5_year_127 [13, 14, 15, 3, 4, 5, 6, 10, 11, 12] rfl rfl rfl (ws' := w_X5 G m_o tx_o gr_o nw_o og_o la_o ss_o un_o kp_o m_AringCell m_AringDrops m_ringCell m_ringDrops m_rings ++ (w_X0 G gr_o gr_Akind gr_Abeside gr_AbesideBits gr_rows gr_columns gr_cells gr_kind gr_beside gr_besideBits ++ (w_X4 G nw_o nw_Aheight nw_Adrops nw_height nw_drops nw_hours nw_restless ++ (w_X4 G la_o la_Aheight la_Adrops la_height_10 o_la_drops_1 o_la_hours_1 o_la_restless_1 ++ w_X2 G ss_o ss_Astate ss_Awaiting ss_state_29 ss_waiting_30 ss_waits_31 ss_cells_32 ss_many_33)))) rfl 13 rfl rfl rfl [] rfl (Nat.le_of_ble_eq_true rfl) ⟨Nat.le_of_ble_eq_true rfl, Nat.le_of_ble_eq_true rfl⟩ ⟨rfl, rfl⟩ ⟨Nat.zero_le _, Nat.zero_le _⟩ (fun hF => ?_)
            obtain ⟨h_ss_state_29, h_ss_waiting_30, h_ss_waits_31, h_ss_cells_32, h_ss_many_33, -⟩ := hF
            refine z_aload_n C dX5_year_130 0 rfl ?_
            refine z_get C zf_X5_41 dX5_year_131 0 rfl rfl ?_
            refine z_get C zf_X5_222 dX5_year_134 13 rfl rfl ?_
            cases hm
            exact z_iret C E dX5_year_137 ⟨rfl, rfl, h_ss_many_33, h_la_height_10, h_o_la_drops_1, h_o_la_hours_1, h_ss_state_29, h_ss_waiting_30, h_ss_waits_31, h_ss_cells_32, h_ss_many_33, trivial⟩
          · have hm := z_neg c28 hm
            refine z_aload_n C dX5_year_103 0 rfl ?_
            refine z_get C zf_X5_35 dX5_year_104 0 rfl rfl ?_
            refine z_aload_n C dX5_year_107 0 rfl ?_
            refine z_get C zf_X5_21 dX5_year_108 0 rfl rfl ?_
            obtain ⟨r35, k36, hm⟩ := z_b1s hm
            refine z_callVi C (k_X4_allDrops l G N la_o la_Aheight la_Adrops gr_o gr_Akind gr_Abeside gr_AbesideBits la_height_10 o_la_drops_1 o_la_hours_1 o_la_restless_1 gr_rows gr_columns gr_cells gr_kind gr_beside gr_besideBits h_la_height_10 h_o_la_drops_1 h_o_la_hours_1 h_gr_rows h_gr_columns h_gr_cells h_gr_kind h_gr_beside r35 k36) zv_X4_allDrops zl_X5_138 dX5_year_111 [10, 11, 12, 3, 4, 5, 6] rfl rfl rfl (ws' := w_X5 G m_o tx_o gr_o nw_o og_o la_o ss_o un_o kp_o m_AringCell m_AringDrops m_ringCell m_ringDrops m_rings ++ (w_X0 G gr_o gr_Akind gr_Abeside gr_AbesideBits gr_rows gr_columns gr_cells gr_kind gr_beside gr_besideBits ++ (w_X4 G nw_o nw_Aheight nw_Adrops nw_height nw_drops nw_hours nw_restless ++ (w_X4 G la_o la_Aheight la_Adrops la_height_10 o_la_drops_1 o_la_hours_1 o_la_restless_1 ++ w_X2 G ss_o ss_Astate ss_Awaiting ss_state ss_waiting ss_waits ss_cells ss_many)))) rfl 10 rfl rfl rfl [] rfl (Nat.le_of_ble_eq_true rfl) ⟨Nat.le_of_ble_eq_true rfl, Nat.le_of_ble_eq_true rfl⟩ ⟨rfl, rfl⟩ ⟨Nat.zero_le _, Nat.zero_le _⟩ (fun hF => ?_)
            obtain ⟨h_r35, -⟩ := hF
            cases hm
            exact z_iret C E dX5_year_114 ⟨rfl, rfl, h_r35, h_la_height_10, h_o_la_drops_1, h_o_la_hours_1, h_ss_state, h_ss_waiting, h_ss_waits, h_ss_cells, h_ss_many, trivial⟩
        clear hm
        have L1 : ∀ (n1 : Nat) (v4_1 : Int) (la_drops_1 : (Int → Int)) (la_hours_1 : Int) (la_restless_1 : Int64), z_n v4_1 → z_r la_drops_1 → z_n la_hours_1 → m_X5_year_l1 N x2 x1 la_height_10 gr_cells gr_kind gr_beside gr_besideBits n1 v4_1 la_drops_1 la_hours_1 la_restless_1 = some (o_la_drops_1, o_la_hours_1, o_la_restless_1) → z_J X 0 0 (w_X5 G m_o tx_o gr_o nw_o og_o la_o ss_o un_o kp_o m_AringCell m_AringDrops m_ringCell m_ringDrops m_rings ++ (w_X0 G gr_o gr_Akind gr_Abeside gr_AbesideBits gr_rows gr_columns gr_cells gr_kind gr_beside gr_besideBits ++ (w_X4 G nw_o nw_Aheight nw_Adrops nw_height nw_drops nw_hours nw_restless ++ (w_X4 G la_o la_Aheight la_Adrops la_height_10 la_drops_1 la_hours_1 la_restless_1 ++ w_X2 G ss_o ss_Astate ss_Awaiting ss_state ss_waiting ss_waits ss_cells ss_many)))) [(0, .ref m_o), (1, z_i x1), (2, z_i x2), (3, z_i x3), (4, z_i v4_1)] 46 [] := by
          clear hl
          intro n1
          induction n1 with
          | zero =>
            intro v4_1 la_drops_1 la_hours_1 la_restless_1 h_v4_1 h_la_drops_1 h_la_hours_1 hm
            rw [m_X5_year_l1] at hm
            cases hm
          | succ n1 ih1 =>
            intro v4_1 la_drops_1 la_hours_1 la_restless_1 h_v4_1 h_la_drops_1 h_la_hours_1 hm
            rw [m_X5_year_l1] at hm
            refine z_iload C dX5_year_46 4 rfl ?_
            refine z_iload_n C dX5_year_48 2 rfl ?_
            refine z_icmp_ge (tgt := 98) C h_v4_1 h_x2 dX5_year_49 (by decide) (fun c14 => ?_) (fun c14 => ?_)
            · have hm := z_pos c14 hm
              refine z_sub (L' := [(0, .ref m_o), (3, z_i x3)]) [0, 3] rfl ?_
              cases hm
              exact JX1 h_la_drops_1 h_la_hours_1
            · have hm := z_neg c14 hm
              refine z_iload_n C dX5_year_52 1 rfl ?_
              refine z_iload C dX5_year_53 4 rfl ?_
              obtain ⟨r15, k16, hm⟩ := z_b1s hm
              refine z_callSi C (k_X5_drawOf l G N x1 v4_1 h_x1 h_v4_1 r15 k16) zs_X5_drawOf zl_X5_219 dX5_year_55 [] rfl rfl rfl (ws' := w_X5 G m_o tx_o gr_o nw_o og_o la_o ss_o un_o kp_o m_AringCell m_AringDrops m_ringCell m_ringDrops m_rings ++ (w_X0 G gr_o gr_Akind gr_Abeside gr_AbesideBits gr_rows gr_columns gr_cells gr_kind gr_beside gr_besideBits ++ (w_X4 G nw_o nw_Aheight nw_Adrops nw_height nw_drops nw_hours nw_restless ++ (w_X4 G la_o la_Aheight la_Adrops la_height_10 la_drops_1 la_hours_1 la_restless_1 ++ w_X2 G ss_o ss_Astate ss_Awaiting ss_state ss_waiting ss_waits ss_cells ss_many)))) rfl rfl [] rfl (Nat.le_of_ble_eq_true rfl) ⟨Nat.le_of_ble_eq_true rfl, Nat.le_of_ble_eq_true rfl⟩ ⟨rfl, rfl⟩ ⟨Nat.zero_le _, Nat.zero_le _⟩ (fun hF => ?_)
              obtain ⟨h_r15, -⟩ := hF
              refine z_istore C dX5_year_58 (by decide) (L' := [(5, z_i r15), (0, .ref m_o), (1, z_i x1), (2, z_i x2), (3, z_i x3), (4, z_i v4_1)]) rfl ?_
              refine z_aload_n C dX5_year_60 1 rfl ?_
              refine z_get C zf_X5_35 dX5_year_61 0 rfl rfl ?_
              refine z_aload_n C dX5_year_64 1 rfl ?_
              refine z_get C zf_X5_21 dX5_year_65 0 rfl rfl ?_
              refine z_iload C dX5_year_68 0 rfl ?_
              refine z_iconst C dX5_year_70 ?_
              obtain ⟨c17, hm⟩ := z_chk_some hm
              refine z_irem C h_r15 (z_k 4 rfl) (by decide) dX5_year_71 ?_
              obtain ⟨la_drops_18, la_restless_19, k20, hm⟩ := z_b2s hm
              refine z_callVv C (k_X4_pour l G N la_o la_Aheight la_Adrops gr_o gr_Akind gr_Abeside gr_AbesideBits la_height_10 la_drops_1 la_hours_1 la_restless_1 gr_rows gr_columns gr_cells gr_kind gr_beside gr_besideBits (Int.tmod r15 4) h_la_height_10 h_la_drops_1 h_la_hours_1 h_gr_rows h_gr_columns h_gr_cells h_gr_kind h_gr_beside c17 la_drops_18 la_restless_19 k20) zv_X4_pour zl_X5_134 dX5_year_72 [10, 11, 12, 3, 4, 5, 6] rfl rfl rfl (ws' := w_X5 G m_o tx_o gr_o nw_o og_o la_o ss_o un_o kp_o m_AringCell m_AringDrops m_ringCell m_ringDrops m_rings ++ (w_X0 G gr_o gr_Akind gr_Abeside gr_AbesideBits gr_rows gr_columns gr_cells gr_kind gr_beside gr_besideBits ++ (w_X4 G nw_o nw_Aheight nw_Adrops nw_height nw_drops nw_hours nw_restless ++ (w_X4 G la_o la_Aheight la_Adrops la_height_10 la_drops_18 la_hours_1 la_restless_19 ++ w_X2 G ss_o ss_Astate ss_Awaiting ss_state ss_waiting ss_waits ss_cells ss_many)))) rfl 10 rfl rfl rfl [] rfl (Nat.le_of_ble_eq_true rfl) ⟨Nat.le_of_ble_eq_true rfl, Nat.le_of_ble_eq_true rfl⟩ ⟨rfl, rfl⟩ ⟨Nat.zero_le _, Nat.zero_le _⟩ (fun hF => ?_)
              obtain ⟨h_la_drops_18, -⟩ := hF
              refine z_aload_n C dX5_year_75 1 rfl ?_
              refine z_get C zf_X5_35 dX5_year_76 0 rfl rfl ?_
              refine z_aload_n C dX5_year_79 1 rfl ?_
              refine z_get C zf_X5_21 dX5_year_80 0 rfl rfl ?_
              refine z_iload C dX5_year_83 0 rfl ?_
              refine z_iconst C dX5_year_85 ?_
              obtain ⟨c21, hm⟩ := z_chk_some hm
              refine z_idiv C h_r15 (z_k 4 rfl) (by decide) dX5_year_86 ?_
              refine z_iconst C dX5_year_87 ?_
              obtain ⟨c22, hm⟩ := z_chk_some hm
              refine z_irem C c21 (z_k 4 rfl) (by decide) dX5_year_88 ?_
              obtain ⟨la_drops_23, la_hours_24, la_restless_25, k26, hm⟩ := z_b3s hm
              refine z_callVv C (k_X4_passHours l G N la_o la_Aheight la_Adrops gr_o gr_Akind gr_Abeside gr_AbesideBits la_height_10 la_drops_18 la_hours_1 la_restless_19 gr_rows gr_columns gr_cells gr_kind gr_beside gr_besideBits (Int.tmod (Int.tdiv r15 4) 4) h_la_height_10 h_la_drops_18 h_la_hours_1 h_gr_rows h_gr_columns h_gr_cells h_gr_kind h_gr_beside c22 la_drops_23 la_hours_24 la_restless_25 k26) zv_X4_passHours zl_X5_142 dX5_year_89 [10, 11, 12, 3, 4, 5, 6] rfl rfl rfl (ws' := w_X5 G m_o tx_o gr_o nw_o og_o la_o ss_o un_o kp_o m_AringCell m_AringDrops m_ringCell m_ringDrops m_rings ++ (w_X0 G gr_o gr_Akind gr_Abeside gr_AbesideBits gr_rows gr_columns gr_cells gr_kind gr_beside gr_besideBits ++ (w_X4 G nw_o nw_Aheight nw_Adrops nw_height nw_drops nw_hours nw_restless ++ (w_X4 G la_o la_Aheight la_Adrops la_height_10 la_drops_23 la_hours_24 la_restless_25 ++ w_X2 G ss_o ss_Astate ss_Awaiting ss_state ss_waiting ss_waits ss_cells ss_many)))) rfl 10 rfl rfl rfl [] rfl (Nat.le_of_ble_eq_true rfl) ⟨Nat.le_of_ble_eq_true rfl, Nat.le_of_ble_eq_true rfl⟩ ⟨rfl, rfl⟩ ⟨Nat.zero_le _, Nat.zero_le _⟩ (fun hF => ?_)
              obtain ⟨h_la_drops_23, h_la_hours_24, -⟩ := hF
              obtain ⟨c27, hm⟩ := z_chk_some hm
              refine z_iinc C dX5_year_92 5 rfl (by decide) (L' := [(4, z_i (v4_1 + 1)), (5, z_i r15), (0, .ref m_o), (1, z_i x1), (2, z_i x2), (3, z_i x3)]) rfl ?_
              refine z_goto (tgt := 46) C dX5_year_95 (by decide) ?_
              refine z_sub (L' := [(0, .ref m_o), (1, z_i x1), (2, z_i x2), (3, z_i x3), (4, z_i (v4_1 + 1))]) [2, 3, 4, 5, 0] rfl ?_
              exact ih1 (v4_1 + 1) la_drops_23 la_hours_24 la_restless_25 c27 h_la_drops_23 h_la_hours_24 hm
        refine z_sub (L' := [(0, .ref m_o), (1, z_i x1), (2, z_i x2), (3, z_i x3), (4, z_i 0)]) [1, 2, 3, 4, 0] rfl ?_
        exact L1 N 0 la_drops_11 la_hours_12 la_restless (z_k 0 rfl) h_la_drops_11 h_la_hours_12 hl
      · have hm := z_neg c9 hm
        refine z_iconst C dX5_year_30 ?_
        cases hm
        exact z_iret C E dX5_year_31 ⟨rfl, rfl, (z_k (-1) rfl), h_la_height, h_la_drops, h_la_hours, h_ss_state, h_ss_waiting, h_ss_waits, h_ss_cells, h_ss_many, trivial⟩
set_option maxRecDepth 100000 in
theorem k_X5_keep (l : Launch) (G : z_G) (N : Nat) (m_o tx_o gr_o nw_o og_o la_o ss_o un_o kp_o m_AringCell m_AringDrops nw_Aheight nw_Adrops kp_Aheights kp_Adrops kp_Ahours : Nat) (m_ringCell : (Int → Int)) (m_ringDrops : (Int → Int)) (m_rings : Int) (nw_height : (Int → Int)) (nw_drops : (Int → Int)) (nw_hours : Int) (nw_restless : Int64) (kp_heights : (Int → Int)) (kp_drops : (Int → Int)) (kp_hours : (Int → Int)) (kp_many : Int) (h_m_ringCell : z_r m_ringCell) (h_m_ringDrops : z_r m_ringDrops) (h_m_rings : z_n m_rings) (h_nw_height : z_r nw_height) (h_nw_drops : z_r nw_drops) (h_nw_hours : z_n nw_hours) (h_kp_heights : z_r kp_heights) (h_kp_drops : z_r kp_drops) (h_kp_hours : z_r kp_hours) (h_kp_many : z_n kp_many) (rr : Int) (q_kp_heights : (Int → Int)) (q_kp_drops : (Int → Int)) (q_kp_hours : (Int → Int)) (q_kp_many : Int) (hm : m_X5_keep N nw_height nw_drops nw_hours kp_heights kp_drops kp_hours kp_many = some (rr, q_kp_heights, q_kp_drops, q_kp_hours, q_kp_many)) : z_M l G yX5_keep cX5_keep 1 (some .int) (k2_rm 3 67) [.ref m_o] (w_X5 G m_o tx_o gr_o nw_o og_o la_o ss_o un_o kp_o m_AringCell m_AringDrops m_ringCell m_ringDrops m_rings ++ (w_X4 G nw_o nw_Aheight nw_Adrops nw_height nw_drops nw_hours nw_restless ++ w_X1 G kp_o kp_Aheights kp_Adrops kp_Ahours kp_heights kp_drops kp_hours kp_many)) 0 0 (fun v w => v = some (z_i rr) ∧ w = w_X5 G m_o tx_o gr_o nw_o og_o la_o ss_o un_o kp_o m_AringCell m_AringDrops m_ringCell m_ringDrops m_rings ++ (w_X4 G nw_o nw_Aheight nw_Adrops nw_height nw_drops nw_hours nw_restless ++ w_X1 G kp_o kp_Aheights kp_Adrops kp_Ahours q_kp_heights q_kp_drops q_kp_hours q_kp_many) ∧ z_n rr ∧ z_r q_kp_heights ∧ z_r q_kp_drops ∧ z_r q_kp_hours ∧ z_n q_kp_many ∧ True) := by
  unfold m_X5_keep at hm
  refine z_M.intro (by decide +kernel) (Nat.le_of_ble_eq_true rfl) (L := [(0, .ref m_o)]) rfl (fun X C E => ?_)
  refine z_aload_n C dX5_keep_0 0 rfl ?_
  refine z_get C zf_X5_52 dX5_keep_1 0 rfl rfl ?_
  refine z_get C zf_X5_158 dX5_keep_4 6 rfl rfl ?_
  refine z_iconst C dX5_keep_7 ?_
  refine z_icmp_lt (tgt := 14) C h_kp_many (z_k 2 rfl) dX5_keep_8 (by decide) (fun c1 => ?_) (fun c1 => ?_)
  · have hm := z_pos c1 hm
    refine z_aload_n C dX5_keep_14 0 rfl ?_
    refine z_get C zf_X5_52 dX5_keep_15 0 rfl rfl ?_
    refine z_aload_n C dX5_keep_18 0 rfl ?_
    refine z_get C zf_X5_28 dX5_keep_19 0 rfl rfl ?_
    obtain ⟨kp_heights_2, kp_drops_3, kp_hours_4, kp_many_5, k6, hm⟩ := z_b4s hm
    refine z_callVv C (k_X1_push l G N kp_o kp_Aheights kp_Adrops kp_Ahours nw_o nw_Aheight nw_Adrops kp_heights kp_drops kp_hours kp_many nw_height nw_drops nw_hours nw_restless h_kp_heights h_kp_drops h_kp_hours h_kp_many h_nw_height h_nw_drops h_nw_hours kp_heights_2 kp_drops_3 kp_hours_4 kp_many_5 k6) zv_X1_push zl_X5_130 dX5_keep_22 [6, 7, 8, 9, 3, 4, 5] rfl rfl rfl (ws' := w_X5 G m_o tx_o gr_o nw_o og_o la_o ss_o un_o kp_o m_AringCell m_AringDrops m_ringCell m_ringDrops m_rings ++ (w_X4 G nw_o nw_Aheight nw_Adrops nw_height nw_drops nw_hours nw_restless ++ w_X1 G kp_o kp_Aheights kp_Adrops kp_Ahours kp_heights_2 kp_drops_3 kp_hours_4 kp_many_5)) rfl 6 rfl rfl rfl [] rfl (Nat.le_of_ble_eq_true rfl) ⟨Nat.le_of_ble_eq_true rfl, Nat.le_of_ble_eq_true rfl⟩ ⟨rfl, rfl⟩ ⟨Nat.zero_le _, Nat.zero_le _⟩ (fun hF => ?_)
    obtain ⟨h_kp_heights_2, h_kp_drops_3, h_kp_hours_4, h_kp_many_5, -⟩ := hF
    refine z_aload_n C dX5_keep_25 0 rfl ?_
    refine z_get C zf_X5_52 dX5_keep_26 0 rfl rfl ?_
    refine z_get C zf_X5_158 dX5_keep_29 6 rfl rfl ?_
    cases hm
    exact z_iret C E dX5_keep_32 ⟨rfl, rfl, h_kp_many_5, h_kp_heights_2, h_kp_drops_3, h_kp_hours_4, h_kp_many_5, trivial⟩
  · have hm := z_neg c1 hm
    refine z_bipush C dX5_keep_11 (by decide) ?_
    cases hm
    exact z_iret C E dX5_keep_13 ⟨rfl, rfl, (z_k (-3) rfl), h_kp_heights, h_kp_drops, h_kp_hours, h_kp_many, trivial⟩
set_option maxRecDepth 100000 in
theorem k_X5_back (l : Launch) (G : z_G) (N : Nat) (m_o tx_o gr_o nw_o og_o la_o ss_o un_o kp_o m_AringCell m_AringDrops nw_Aheight nw_Adrops un_Aheights un_Adrops un_Ahours kp_Aheights kp_Adrops kp_Ahours : Nat) (m_ringCell : (Int → Int)) (m_ringDrops : (Int → Int)) (m_rings : Int) (nw_height : (Int → Int)) (nw_drops : (Int → Int)) (nw_hours : Int) (nw_restless : Int64) (un_heights : (Int → Int)) (un_drops : (Int → Int)) (un_hours : (Int → Int)) (un_many : Int) (kp_heights : (Int → Int)) (kp_drops : (Int → Int)) (kp_hours : (Int → Int)) (kp_many : Int) (h_m_ringCell : z_r m_ringCell) (h_m_ringDrops : z_r m_ringDrops) (h_m_rings : z_n m_rings) (h_nw_height : z_r nw_height) (h_nw_drops : z_r nw_drops) (h_nw_hours : z_n nw_hours) (h_un_heights : z_r un_heights) (h_un_drops : z_r un_drops) (h_un_hours : z_r un_hours) (h_un_many : z_n un_many) (h_kp_heights : z_r kp_heights) (h_kp_drops : z_r kp_drops) (h_kp_hours : z_r kp_hours) (h_kp_many : z_n kp_many) (rr : Int) (q_nw_height : (Int → Int)) (q_nw_drops : (Int → Int)) (q_nw_hours : Int) (q_un_many : Int) (q_kp_many : Int) (hm : m_X5_back N nw_height nw_drops nw_hours un_many kp_heights kp_drops kp_hours kp_many = some (rr, q_nw_height, q_nw_drops, q_nw_hours, q_un_many, q_kp_many)) : z_M l G yX5_back cX5_back 1 (some .int) (k2_rm 2 47) [.ref m_o] (w_X5 G m_o tx_o gr_o nw_o og_o la_o ss_o un_o kp_o m_AringCell m_AringDrops m_ringCell m_ringDrops m_rings ++ (w_X4 G nw_o nw_Aheight nw_Adrops nw_height nw_drops nw_hours nw_restless ++ (w_X1 G un_o un_Aheights un_Adrops un_Ahours un_heights un_drops un_hours un_many ++ w_X1 G kp_o kp_Aheights kp_Adrops kp_Ahours kp_heights kp_drops kp_hours kp_many))) 0 0 (fun v w => v = some (z_i rr) ∧ w = w_X5 G m_o tx_o gr_o nw_o og_o la_o ss_o un_o kp_o m_AringCell m_AringDrops m_ringCell m_ringDrops m_rings ++ (w_X4 G nw_o nw_Aheight nw_Adrops q_nw_height q_nw_drops q_nw_hours nw_restless ++ (w_X1 G un_o un_Aheights un_Adrops un_Ahours un_heights un_drops un_hours q_un_many ++ w_X1 G kp_o kp_Aheights kp_Adrops kp_Ahours kp_heights kp_drops kp_hours q_kp_many)) ∧ z_n rr ∧ z_r q_nw_height ∧ z_r q_nw_drops ∧ z_n q_nw_hours ∧ z_n q_un_many ∧ z_n q_kp_many ∧ True) := by
  unfold m_X5_back at hm
  refine z_M.intro (by decide +kernel) (Nat.le_of_ble_eq_true rfl) (L := [(0, .ref m_o)]) rfl (fun X C E => ?_)
  refine z_aload_n C dX5_back_0 0 rfl ?_
  refine z_get C zf_X5_52 dX5_back_1 0 rfl rfl ?_
  refine z_get C zf_X5_158 dX5_back_4 10 rfl rfl ?_
  refine z_if_ne (tgt := 13) C h_kp_many dX5_back_7 (by decide) (fun c1 => ?_) (fun c1 => ?_)
  · have hm := z_pos c1 hm
    refine z_aload_n C dX5_back_13 0 rfl ?_
    refine z_get C zf_X5_52 dX5_back_14 0 rfl rfl ?_
    refine z_aload_n C dX5_back_17 0 rfl ?_
    refine z_get C zf_X5_28 dX5_back_18 0 rfl rfl ?_
    obtain ⟨kp_many_2, nw_height_3, nw_drops_4, nw_hours_5, k6, hm⟩ := z_b4s hm
    refine z_callVv C (k_X1_pop l G N kp_o kp_Aheights kp_Adrops kp_Ahours nw_o nw_Aheight nw_Adrops kp_heights kp_drops kp_hours kp_many nw_height nw_drops nw_hours nw_restless h_kp_heights h_kp_drops h_kp_hours h_kp_many h_nw_height h_nw_drops h_nw_hours kp_many_2 nw_height_3 nw_drops_4 nw_hours_5 k6) zv_X1_pop zl_X5_161 dX5_back_21 [10, 11, 12, 13, 3, 4, 5] rfl rfl rfl (ws' := w_X5 G m_o tx_o gr_o nw_o og_o la_o ss_o un_o kp_o m_AringCell m_AringDrops m_ringCell m_ringDrops m_rings ++ (w_X4 G nw_o nw_Aheight nw_Adrops nw_height_3 nw_drops_4 nw_hours_5 nw_restless ++ (w_X1 G un_o un_Aheights un_Adrops un_Ahours un_heights un_drops un_hours un_many ++ w_X1 G kp_o kp_Aheights kp_Adrops kp_Ahours kp_heights kp_drops kp_hours kp_many_2))) rfl 10 rfl rfl rfl [] rfl (Nat.le_of_ble_eq_true rfl) ⟨Nat.le_of_ble_eq_true rfl, Nat.le_of_ble_eq_true rfl⟩ ⟨rfl, rfl⟩ ⟨Nat.zero_le _, Nat.zero_le _⟩ (fun hF => ?_)
    obtain ⟨h_kp_many_2, h_nw_height_3, h_nw_drops_4, h_nw_hours_5, -⟩ := hF
    refine z_aload_n C dX5_back_24 0 rfl ?_
    refine z_get C zf_X5_48 dX5_back_25 0 rfl rfl ?_
    refine z_iconst C dX5_back_28 ?_
    refine z_puti C zf_X5_158 dX5_back_29 6 rfl rfl (ws' := w_X5 G m_o tx_o gr_o nw_o og_o la_o ss_o un_o kp_o m_AringCell m_AringDrops m_ringCell m_ringDrops m_rings ++ (w_X4 G nw_o nw_Aheight nw_Adrops nw_height_3 nw_drops_4 nw_hours_5 nw_restless ++ (w_X1 G un_o un_Aheights un_Adrops un_Ahours un_heights un_drops un_hours 0 ++ w_X1 G kp_o kp_Aheights kp_Adrops kp_Ahours kp_heights kp_drops kp_hours kp_many_2))) rfl ?_
    refine z_aload_n C dX5_back_32 0 rfl ?_
    refine z_get C zf_X5_52 dX5_back_33 0 rfl rfl ?_
    refine z_get C zf_X5_158 dX5_back_36 10 rfl rfl ?_
    cases hm
    exact z_iret C E dX5_back_39 ⟨rfl, rfl, h_kp_many_2, h_nw_height_3, h_nw_drops_4, h_nw_hours_5, (z_k 0 rfl), h_kp_many_2, trivial⟩
  · have hm := z_neg c1 hm
    refine z_bipush C dX5_back_10 (by decide) ?_
    cases hm
    exact z_iret C E dX5_back_12 ⟨rfl, rfl, (z_k (-2) rfl), h_nw_height, h_nw_drops, h_nw_hours, h_un_many, h_kp_many, trivial⟩
