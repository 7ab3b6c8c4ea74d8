set_option maxRecDepth 100000 in
theorem k_X5_dry (l : Launch) (G : z_G) (N : Nat) (m_o tx_o gr_o nw_o og_o la_o ss_o un_o kp_o m_AringCell m_AringDrops gr_Akind gr_Abeside gr_AbesideBits nw_Aheight nw_Adrops la_Aheight la_Adrops : Nat) (m_ringCell : (Int → Int)) (m_ringDrops : (Int → Int)) (m_rings : Int) (gr_rows : Int) (gr_columns : Int) (gr_cells : Int) (gr_kind : (Int → Int)) (gr_beside : (Int → Int)) (gr_besideBits : (Int → Int64)) (nw_height : (Int → Int)) (nw_drops : (Int → Int)) (nw_hours : Int) (nw_restless : Int64) (la_height : (Int → Int)) (la_drops : (Int → Int)) (la_hours : Int) (la_restless : Int64) (x1 : Int) (h_m_ringCell : z_r m_ringCell) (h_m_ringDrops : z_r m_ringDrops) (h_m_rings : z_n m_rings) (h_gr_rows : z_n gr_rows) (h_gr_columns : z_n gr_columns) (h_gr_cells : z_n gr_cells) (h_gr_kind : z_r gr_kind) (h_gr_beside : z_r gr_beside) (h_nw_height : z_r nw_height) (h_nw_drops : z_r nw_drops) (h_nw_hours : z_n nw_hours) (h_la_height : z_r la_height) (h_la_drops : z_r la_drops) (h_la_hours : z_n la_hours) (h_x1 : z_n x1) (rr : Int) (q_la_height : (Int → Int)) (q_la_drops : (Int → Int)) (q_la_hours : Int) (q_la_restless : Int64) (hm : m_X5_dry N gr_cells gr_kind gr_beside gr_besideBits nw_height nw_drops nw_hours la_height la_drops la_hours la_restless x1 = some (rr, q_la_height, q_la_drops, q_la_hours, q_la_restless)) : z_M l G yX5_dry cX5_dry 5 (some .int) (k2_rm 6 133) [.ref m_o, z_i x1] ([(m_o, z_o 5 [.ref tx_o, .ref gr_o, .ref nw_o, .ref og_o, .ref la_o, .ref ss_o, .ref un_o, .ref kp_o, .ref m_AringCell, .ref m_AringDrops, z_i m_rings]), (m_AringCell, z_a G.2.1 6 m_ringCell), (m_AringDrops, z_a G.2.1 6 m_ringDrops), (gr_o, z_o 0 [z_i gr_rows, z_i gr_columns, z_i gr_cells, .ref gr_Akind, .ref gr_Abeside, .ref gr_AbesideBits]), (gr_Akind, z_a G.2.1 36 gr_kind), (gr_Abeside, z_a G.2.1 144 gr_beside), (gr_AbesideBits, z_l G.2.2.1 36 gr_besideBits), (nw_o, z_o 4 [.ref nw_Aheight, .ref nw_Adrops, z_i nw_hours, .long nw_restless]), (nw_Aheight, z_a G.2.1 36 nw_height), (nw_Adrops, z_a G.2.1 36 nw_drops), (la_o, z_o 4 [.ref la_Aheight, .ref la_Adrops, z_i la_hours, .long la_restless]), (la_Aheight, z_a G.2.1 36 la_height), (la_Adrops, z_a G.2.1 36 la_drops)]) 0 0 (fun v w => v = some (z_i rr) ∧ w = [(m_o, z_o 5 [.ref tx_o, .ref gr_o, .ref nw_o, .ref og_o, .ref la_o, .ref ss_o, .ref un_o, .ref kp_o, .ref m_AringCell, .ref m_AringDrops, z_i m_rings]), (m_AringCell, z_a G.2.1 6 m_ringCell), (m_AringDrops, z_a G.2.1 6 m_ringDrops), (gr_o, z_o 0 [z_i gr_rows, z_i gr_columns, z_i gr_cells, .ref gr_Akind, .ref gr_Abeside, .ref gr_AbesideBits]), (gr_Akind, z_a G.2.1 36 gr_kind), (gr_Abeside, z_a G.2.1 144 gr_beside), (gr_AbesideBits, z_l G.2.2.1 36 gr_besideBits), (nw_o, z_o 4 [.ref nw_Aheight, .ref nw_Adrops, z_i nw_hours, .long nw_restless]), (nw_Aheight, z_a G.2.1 36 nw_height), (nw_Adrops, z_a G.2.1 36 nw_drops), (la_o, z_o 4 [.ref la_Aheight, .ref la_Adrops, z_i q_la_hours, .long q_la_restless]), (la_Aheight, z_a G.2.1 36 q_la_height), (la_Adrops, z_a G.2.1 36 q_la_drops)] ∧ z_n rr ∧ z_r q_la_height ∧ z_r q_la_drops ∧ z_n q_la_hours ∧ True) := by
  unfold m_X5_dry at hm
  refine z_M.intro (by decide +kernel) (Nat.le_of_ble_eq_true rfl) (L := [(0, .ref m_o), (1, z_i x1)]) rfl (fun X C E => ?_)
  refine z_iload_n C dX5_dry_0 1 rfl ?_
  refine z_iconst C dX5_dry_1 ?_
  refine z_iconst C dX5_dry_2 ?_
  obtain ⟨r1, k2, hm⟩ := z_b1s hm
  refine z_callSi C (k_X5_isFrom l G N x1 0 1 h_x1 (z_k 0 rfl) (z_k 1 rfl) r1 k2) zs_X5_isFrom zl_X5_100 dX5_dry_3 [] rfl rfl rfl (ws' := [(m_o, z_o 5 [.ref tx_o, .ref gr_o, .ref nw_o, .ref og_o, .ref la_o, .ref ss_o, .ref un_o, .ref kp_o, .ref m_AringCell, .ref m_AringDrops, z_i m_rings]), (m_AringCell, z_a G.2.1 6 m_ringCell), (m_AringDrops, z_a G.2.1 6 m_ringDrops), (gr_o, z_o 0 [z_i gr_rows, z_i gr_columns, z_i gr_cells, .ref gr_Akind, .ref gr_Abeside, .ref gr_AbesideBits]), (gr_Akind, z_a G.2.1 36 gr_kind), (gr_Abeside, z_a G.2.1 144 gr_beside), (gr_AbesideBits, z_l G.2.2.1 36 gr_besideBits), (nw_o, z_o 4 [.ref nw_Aheight, .ref nw_Adrops, z_i nw_hours, .long nw_restless]), (nw_Aheight, z_a G.2.1 36 nw_height), (nw_Adrops, z_a G.2.1 36 nw_drops), (la_o, z_o 4 [.ref la_Aheight, .ref la_Adrops, z_i la_hours, .long la_restless]), (la_Aheight, z_a G.2.1 36 la_height), (la_Adrops, z_a G.2.1 36 la_drops)]) rfl rfl [] rfl (Nat.le_of_ble_eq_true rfl) ⟨Nat.le_of_ble_eq_true rfl, Nat.le_of_ble_eq_true rfl⟩ ⟨rfl, rfl⟩ ⟨Nat.zero_le _, Nat.zero_le _⟩ (fun hF => ?_)
  obtain ⟨hb_r1, -⟩ := hF
  refine z_if_ne (tgt := 11) C (z_n01 hb_r1) dX5_dry_6 (by decide) (fun c3 => ?_) (fun c3 => ?_)
  · have hm := z_pos c3 hm
    refine z_aload_n C dX5_dry_11 0 rfl ?_
    refine z_get C zf_X5_33 dX5_dry_12 0 rfl rfl ?_
    refine z_aload_n C dX5_dry_15 0 rfl ?_
    refine z_get C zf_X5_26 dX5_dry_16 0 rfl rfl ?_
    obtain ⟨la_height_4, la_drops_5, la_hours_6, k7, hm⟩ := z_b3s hm
    refine z_callVv C (k_X4_copyFrom l G N la_o la_Aheight la_Adrops nw_o nw_Aheight nw_Adrops la_height la_drops la_hours la_restless nw_height nw_drops nw_hours nw_restless h_la_height h_la_drops h_la_hours h_nw_height h_nw_drops h_nw_hours la_height_4 la_drops_5 la_hours_6 k7) zv_X4_copyFrom zl_X5_162 dX5_dry_19 [10, 11, 12, 7, 8, 9] rfl rfl rfl (ws' := [(m_o, z_o 5 [.ref tx_o, .ref gr_o, .ref nw_o, .ref og_o, .ref la_o, .ref ss_o, .ref un_o, .ref kp_o, .ref m_AringCell, .ref m_AringDrops, z_i m_rings]), (m_AringCell, z_a G.2.1 6 m_ringCell), (m_AringDrops, z_a G.2.1 6 m_ringDrops), (gr_o, z_o 0 [z_i gr_rows, z_i gr_columns, z_i gr_cells, .ref gr_Akind, .ref gr_Abeside, .ref gr_AbesideBits]), (gr_Akind, z_a G.2.1 36 gr_kind), (gr_Abeside, z_a G.2.1 144 gr_beside), (gr_AbesideBits, z_l G.2.2.1 36 gr_besideBits), (nw_o, z_o 4 [.ref nw_Aheight, .ref nw_Adrops, z_i nw_hours, .long nw_restless]), (nw_Aheight, z_a G.2.1 36 nw_height), (nw_Adrops, z_a G.2.1 36 nw_drops), (la_o, z_o 4 [.ref la_Aheight, .ref la_Adrops, z_i la_hours_6, .long la_restless]), (la_Aheight, z_a G.2.1 36 la_height_4), (la_Adrops, z_a G.2.1 36 la_drops_5)]) rfl 10 rfl rfl rfl [] rfl (Nat.le_of_ble_eq_true rfl) ⟨Nat.le_of_ble_eq_true rfl, Nat.le_of_ble_eq_true rfl⟩ ⟨rfl, rfl⟩ ⟨Nat.zero_le _, Nat.zero_le _⟩ (fun hF => ?_)
    obtain ⟨h_la_height_4, h_la_drops_5, h_la_hours_6, -⟩ := hF
    refine z_bipush C dX5_dry_22 (by decide) ?_
    refine z_istore_n C dX5_dry_24 (by decide) (L' := [(2, z_i (-4)), (0, .ref m_o), (1, z_i x1)]) rfl ?_
    refine z_iconst C dX5_dry_25 ?_
    refine z_istore_n C dX5_dry_26 (by decide) (L' := [(3, z_i 0), (2, z_i (-4)), (0, .ref m_o), (1, z_i x1)]) rfl ?_
    have L1 : ∀ (n1 : Nat) (v2_1 : Int) (v3_1 : Int) (la_drops_1 : (Int → Int)) (la_hours_1 : Int) (la_restless_1 : Int64), z_n v2_1 → z_n v3_1 → z_r la_drops_1 → z_n la_hours_1 → m_X5_dry_l1 N la_height_4 gr_cells gr_kind gr_beside gr_besideBits x1 n1 v2_1 v3_1 la_drops_1 la_hours_1 la_restless_1 = some (rr, q_la_height, q_la_drops, q_la_hours, q_la_restless) → z_J X 0 0 ([(m_o, z_o 5 [.ref tx_o, .ref gr_o, .ref nw_o, .ref og_o, .ref la_o, .ref ss_o, .ref un_o, .ref kp_o, .ref m_AringCell, .ref m_AringDrops, z_i m_rings]), (m_AringCell, z_a G.2.1 6 m_ringCell), (m_AringDrops, z_a G.2.1 6 m_ringDrops), (gr_o, z_o 0 [z_i gr_rows, z_i gr_columns, z_i gr_cells, .ref gr_Akind, .ref gr_Abeside, .ref gr_AbesideBits]), (gr_Akind, z_a G.2.1 36 gr_kind), (gr_Abeside, z_a G.2.1 144 gr_beside), (gr_AbesideBits, z_l G.2.2.1 36 gr_besideBits), (nw_o, z_o 4 [.ref nw_Aheight, .ref nw_Adrops, z_i nw_hours, .long nw_restless]), (nw_Aheight, z_a G.2.1 36 nw_height), (nw_Adrops, z_a G.2.1 36 nw_drops), (la_o, z_o 4 [.ref la_Aheight, .ref la_Adrops, z_i la_hours_1, .long la_restless_1]), (la_Aheight, z_a G.2.1 36 la_height_4), (la_Adrops, z_a G.2.1 36 la_drops_1)]) [(0, .ref m_o), (1, z_i x1), (2, z_i v2_1), (3, z_i v3_1)] 27 [] := by
      clear hm
      intro n1
      induction n1 with
      | zero =>
        intro v2_1 v3_1 la_drops_1 la_hours_1 la_restless_1 h_v2_1 h_v3_1 h_la_drops_1 h_la_hours_1 hm
        rw [m_X5_dry_l1] at hm
        cases hm
      | succ n1 ih1 =>
        intro v2_1 v3_1 la_drops_1 la_hours_1 la_restless_1 h_v2_1 h_v3_1 h_la_drops_1 h_la_hours_1 hm
        rw [m_X5_dry_l1] at hm
        refine z_iload_n C dX5_dry_27 3 rfl ?_
        refine z_bipush C dX5_dry_28 (by decide) ?_
        refine z_icmp_gt (tgt := 83) C h_v3_1 (z_k 60 rfl) dX5_dry_30 (by decide) (fun c8 => ?_) (fun c8 => ?_)
        · have hm := z_pos c8 hm
          refine z_bipush C dX5_dry_83 (by decide) ?_
          cases hm
          exact z_iret C E dX5_dry_85 ⟨rfl, rfl, (z_k (-4) rfl), h_la_height_4, h_la_drops_1, h_la_hours_1, trivial⟩
        · have hm := z_neg c8 hm
          refine z_aload_n C dX5_dry_33 0 rfl ?_
          refine z_get C zf_X5_33 dX5_dry_34 0 rfl rfl ?_
          refine z_aload_n C dX5_dry_37 0 rfl ?_
          refine z_get C zf_X5_19 dX5_dry_38 0 rfl rfl ?_
          obtain ⟨r9, k10, hm⟩ := z_b1s hm
          refine z_callVi C (k_X4_firstWet l G N la_o la_Aheight la_Adrops gr_o gr_Akind gr_Abeside gr_AbesideBits la_height_4 la_drops_1 la_hours_1 la_restless_1 gr_rows gr_columns gr_cells gr_kind gr_beside gr_besideBits h_la_height_4 h_la_drops_1 h_la_hours_1 h_gr_rows h_gr_columns h_gr_cells h_gr_kind h_gr_beside r9 k10) zv_X4_firstWet zl_X5_165 dX5_dry_41 [10, 11, 12, 3, 4, 5, 6] rfl rfl rfl (ws' := [(m_o, z_o 5 [.ref tx_o, .ref gr_o, .ref nw_o, .ref og_o, .ref la_o, .ref ss_o, .ref un_o, .ref kp_o, .ref m_AringCell, .ref m_AringDrops, z_i m_rings]), (m_AringCell, z_a G.2.1 6 m_ringCell), (m_AringDrops, z_a G.2.1 6 m_ringDrops), (gr_o, z_o 0 [z_i gr_rows, z_i gr_columns, z_i gr_cells, .ref gr_Akind, .ref gr_Abeside, .ref gr_AbesideBits]), (gr_Akind, z_a G.2.1 36 gr_kind), (gr_Abeside, z_a G.2.1 144 gr_beside), (gr_AbesideBits, z_l G.2.2.1 36 gr_besideBits), (nw_o, z_o 4 [.ref nw_Aheight, .ref nw_Adrops, z_i nw_hours, .long nw_restless]), (nw_Aheight, z_a G.2.1 36 nw_height), (nw_Adrops, z_a G.2.1 36 nw_drops), (la_o, z_o 4 [.ref la_Aheight, .ref la_Adrops, z_i la_hours_1, .long la_restless_1]), (la_Aheight, z_a G.2.1 36 la_height_4), (la_Adrops, z_a G.2.1 36 la_drops_1)]) rfl 10 rfl rfl rfl [] rfl (Nat.le_of_ble_eq_true rfl) ⟨Nat.le_of_ble_eq_true rfl, Nat.le_of_ble_eq_true rfl⟩ ⟨rfl, rfl⟩ ⟨Nat.zero_le _, Nat.zero_le _⟩ (fun hF => ?_)
          obtain ⟨h_r9, -⟩ := hF
          refine z_istore C dX5_dry_44 (by decide) (L' := [(4, z_i r9), (0, .ref m_o), (1, z_i x1), (2, z_i v2_1), (3, z_i v3_1)]) rfl ?_
          refine z_iload C dX5_dry_46 0 rfl ?_
          refine z_bipush C dX5_dry_48 (by decide) ?_
          refine z_icmp_ne (tgt := 63) C h_r9 (z_k (-4) rfl) dX5_dry_50 (by decide) (fun c11 => ?_) (fun c11 => ?_)
          · have hm := z_pos c11 hm
            refine z_iload C dX5_dry_63 0 rfl ?_
            refine z_istore_n C dX5_dry_65 (by decide) (L' := [(2, z_i r9), (4, z_i r9), (0, .ref m_o), (1, z_i x1), (3, z_i v3_1)]) rfl ?_
            refine z_aload_n C dX5_dry_66 2 rfl ?_
            refine z_get C zf_X5_33 dX5_dry_67 0 rfl rfl ?_
            refine z_aload_n C dX5_dry_70 2 rfl ?_
            refine z_get C zf_X5_19 dX5_dry_71 0 rfl rfl ?_
            obtain ⟨la_drops_12, la_hours_13, la_restless_14, k15, hm⟩ := z_b3s hm
            refine z_callVv C (k_X4_passHour l G N la_o la_Aheight la_Adrops gr_o gr_Akind gr_Abeside gr_AbesideBits la_height_4 la_drops_1 la_hours_1 la_restless_1 gr_rows gr_columns gr_cells gr_kind gr_beside gr_besideBits h_la_height_4 h_la_drops_1 h_la_hours_1 h_gr_rows h_gr_columns h_gr_cells h_gr_kind h_gr_beside la_drops_12 la_hours_13 la_restless_14 k15) zv_X4_passHour zl_X5_168 dX5_dry_74 [10, 11, 12, 3, 4, 5, 6] rfl rfl rfl (ws' := [(m_o, z_o 5 [.ref tx_o, .ref gr_o, .ref nw_o, .ref og_o, .ref la_o, .ref ss_o, .ref un_o, .ref kp_o, .ref m_AringCell, .ref m_AringDrops, z_i m_rings]), (m_AringCell, z_a G.2.1 6 m_ringCell), (m_AringDrops, z_a G.2.1 6 m_ringDrops), (gr_o, z_o 0 [z_i gr_rows, z_i gr_columns, z_i gr_cells, .ref gr_Akind, .ref gr_Abeside, .ref gr_AbesideBits]), (gr_Akind, z_a G.2.1 36 gr_kind), (gr_Abeside, z_a G.2.1 144 gr_beside), (gr_AbesideBits, z_l G.2.2.1 36 gr_besideBits), (nw_o, z_o 4 [.ref nw_Aheight, .ref nw_Adrops, z_i nw_hours, .long nw_restless]), (nw_Aheight, z_a G.2.1 36 nw_height), (nw_Adrops, z_a G.2.1 36 nw_drops), (la_o, z_o 4 [.ref la_Aheight, .ref la_Adrops, z_i la_hours_13, .long la_restless_14]), (la_Aheight, z_a G.2.1 36 la_height_4), (la_Adrops, z_a G.2.1 36 la_drops_12)]) rfl 10 rfl rfl rfl [] rfl (Nat.le_of_ble_eq_true rfl) ⟨Nat.le_of_ble_eq_true rfl, Nat.le_of_ble_eq_true rfl⟩ ⟨rfl, rfl⟩ ⟨Nat.zero_le _, Nat.zero_le _⟩ (fun hF => ?_)
            obtain ⟨h_la_drops_12, h_la_hours_13, -⟩ := hF
            obtain ⟨c16, hm⟩ := z_chk_some hm
            refine z_iinc C dX5_dry_77 4 rfl (by decide) (L' := [(3, z_i (v3_1 + 1)), (2, z_i r9), (4, z_i r9), (0, .ref m_o), (1, z_i x1)]) rfl ?_
            refine z_goto (tgt := 27) C dX5_dry_80 (by decide) ?_
            refine z_sub (L' := [(0, .ref m_o), (1, z_i x1), (2, z_i r9), (3, z_i (v3_1 + 1))]) [3, 4, 1, 0] rfl ?_
            exact ih1 r9 (v3_1 + 1) la_drops_12 la_hours_13 la_restless_14 h_r9 c16 h_la_drops_12 h_la_hours_13 hm
          · have hm := z_neg c11 hm
            refine z_iload_n C dX5_dry_53 2 rfl ?_
            refine z_if_ne (tgt := 61) C h_x1 dX5_dry_54 (by decide) (fun c17 => ?_) (fun c17 => ?_)
            · have hm := z_pos c17 hm
              refine z_iload_n C dX5_dry_61 3 rfl ?_
              cases hm
              exact z_iret C E dX5_dry_62 ⟨rfl, rfl, h_v2_1, h_la_height_4, h_la_drops_1, h_la_hours_1, trivial⟩
            · have hm := z_neg c17 hm
              refine z_iload_n C dX5_dry_57 4 rfl ?_
              refine z_goto (tgt := 62) C dX5_dry_58 (by decide) ?_
              cases hm
              exact z_iret C E dX5_dry_62 ⟨rfl, rfl, h_v3_1, h_la_height_4, h_la_drops_1, h_la_hours_1, trivial⟩
    refine z_sub (L' := [(0, .ref m_o), (1, z_i x1), (2, z_i (-4)), (3, z_i 0)]) [2, 3, 1, 0] rfl ?_
    exact L1 N (-4) 0 la_drops_5 la_hours_6 la_restless (z_k (-4) rfl) (z_k 0 rfl) h_la_drops_5 h_la_hours_6 hm
  · have hm := z_neg c3 hm
    refine z_iconst C dX5_dry_9 ?_
    cases hm
    exact z_iret C E dX5_dry_10 ⟨rfl, rfl, (z_k (-1) rfl), h_la_height, h_la_drops, h_la_hours, trivial⟩
set_option maxRecDepth 100000 in
theorem k_X5_areTwo (l : Launch) (G : z_G) (N : Nat) (m_o tx_o gr_o nw_o og_o la_o ss_o un_o kp_o m_AringCell m_AringDrops gr_Akind gr_Abeside gr_AbesideBits : Nat) (m_ringCell : (Int → Int)) (m_ringDrops : (Int → Int)) (m_rings : Int) (gr_rows : Int) (gr_columns : Int) (gr_cells : Int) (gr_kind : (Int → Int)) (gr_beside : (Int → Int)) (gr_besideBits : (Int → Int64)) (x1 : Int) (x2 : Int) (h_m_ringCell : z_r m_ringCell) (h_m_ringDrops : z_r m_ringDrops) (h_m_rings : z_n m_rings) (h_gr_rows : z_n gr_rows) (h_gr_columns : z_n gr_columns) (h_gr_cells : z_n gr_cells) (h_gr_kind : z_r gr_kind) (h_gr_beside : z_r gr_beside) (h_x1 : z_n x1) (h_x2 : z_n x2) (rr : Int) (hm : m_X5_areTwo N gr_cells x1 x2 = some (rr)) : z_M l G yX5_areTwo cX5_areTwo 3 (some .boolean) (k2_rm 1 21) [.ref m_o, z_i x1, z_i x2] ([(m_o, z_o 5 [.ref tx_o, .ref gr_o, .ref nw_o, .ref og_o, .ref la_o, .ref ss_o, .ref un_o, .ref kp_o, .ref m_AringCell, .ref m_AringDrops, z_i m_rings]), (m_AringCell, z_a G.2.1 6 m_ringCell), (m_AringDrops, z_a G.2.1 6 m_ringDrops), (gr_o, z_o 0 [z_i gr_rows, z_i gr_columns, z_i gr_cells, .ref gr_Akind, .ref gr_Abeside, .ref gr_AbesideBits]), (gr_Akind, z_a G.2.1 36 gr_kind), (gr_Abeside, z_a G.2.1 144 gr_beside), (gr_AbesideBits, z_l G.2.2.1 36 gr_besideBits)]) 0 0 (fun v w => v = some (z_i rr) ∧ w = [(m_o, z_o 5 [.ref tx_o, .ref gr_o, .ref nw_o, .ref og_o, .ref la_o, .ref ss_o, .ref un_o, .ref kp_o, .ref m_AringCell, .ref m_AringDrops, z_i m_rings]), (m_AringCell, z_a G.2.1 6 m_ringCell), (m_AringDrops, z_a G.2.1 6 m_ringDrops), (gr_o, z_o 0 [z_i gr_rows, z_i gr_columns, z_i gr_cells, .ref gr_Akind, .ref gr_Abeside, .ref gr_AbesideBits]), (gr_Akind, z_a G.2.1 36 gr_kind), (gr_Abeside, z_a G.2.1 144 gr_beside), (gr_AbesideBits, z_l G.2.2.1 36 gr_besideBits)] ∧ (rr = 0 ∨ rr = 1) ∧ True) := by
  unfold m_X5_areTwo at hm
  refine z_M.intro (by decide +kernel) (Nat.le_of_ble_eq_true rfl) (L := [(0, .ref m_o), (1, z_i x1), (2, z_i x2)]) rfl (fun X C E => ?_)
  refine z_aload_n C dX5_areTwo_0 0 rfl ?_
  refine z_get C zf_X5_19 dX5_areTwo_1 0 rfl rfl ?_
  refine z_iload_n C dX5_areTwo_4 1 rfl ?_
  obtain ⟨r1, k2, hm⟩ := z_b1s hm
  refine z_callVi C (k_X0_holds l G N gr_o gr_Akind gr_Abeside gr_AbesideBits gr_rows gr_columns gr_cells gr_kind gr_beside gr_besideBits x1 h_gr_rows h_gr_columns h_gr_cells h_gr_kind h_gr_beside h_x1 r1 k2) zv_X0_holds zl_X5_96 dX5_areTwo_5 [3, 4, 5, 6] rfl rfl rfl (ws' := [(m_o, z_o 5 [.ref tx_o, .ref gr_o, .ref nw_o, .ref og_o, .ref la_o, .ref ss_o, .ref un_o, .ref kp_o, .ref m_AringCell, .ref m_AringDrops, z_i m_rings]), (m_AringCell, z_a G.2.1 6 m_ringCell), (m_AringDrops, z_a G.2.1 6 m_ringDrops), (gr_o, z_o 0 [z_i gr_rows, z_i gr_columns, z_i gr_cells, .ref gr_Akind, .ref gr_Abeside, .ref gr_AbesideBits]), (gr_Akind, z_a G.2.1 36 gr_kind), (gr_Abeside, z_a G.2.1 144 gr_beside), (gr_AbesideBits, z_l G.2.2.1 36 gr_besideBits)]) rfl 3 rfl rfl rfl [] rfl (Nat.le_of_ble_eq_true rfl) ⟨Nat.le_of_ble_eq_true rfl, Nat.le_of_ble_eq_true rfl⟩ ⟨rfl, rfl⟩ ⟨Nat.zero_le _, Nat.zero_le _⟩ (fun hF => ?_)
  obtain ⟨hb_r1, -⟩ := hF
  refine z_if_eq (tgt := 31) C (z_n01 hb_r1) dX5_areTwo_8 (by decide) (fun c3 => ?_) (fun c3 => ?_)
  · have hm := z_pos c3 hm
    refine z_iconst C dX5_areTwo_31 ?_
    cases hm
    exact z_zret C E (Or.inl rfl) dX5_areTwo_32 ⟨rfl, rfl, (Or.inl rfl), trivial⟩
  · have hm := z_neg c3 hm
    refine z_aload_n C dX5_areTwo_11 0 rfl ?_
    refine z_get C zf_X5_19 dX5_areTwo_12 0 rfl rfl ?_
    refine z_iload_n C dX5_areTwo_15 2 rfl ?_
    obtain ⟨r4, k5, hm⟩ := z_b1s hm
    refine z_callVi C (k_X0_holds l G N gr_o gr_Akind gr_Abeside gr_AbesideBits gr_rows gr_columns gr_cells gr_kind gr_beside gr_besideBits x2 h_gr_rows h_gr_columns h_gr_cells h_gr_kind h_gr_beside h_x2 r4 k5) zv_X0_holds zl_X5_96 dX5_areTwo_16 [3, 4, 5, 6] rfl rfl rfl (ws' := [(m_o, z_o 5 [.ref tx_o, .ref gr_o, .ref nw_o, .ref og_o, .ref la_o, .ref ss_o, .ref un_o, .ref kp_o, .ref m_AringCell, .ref m_AringDrops, z_i m_rings]), (m_AringCell, z_a G.2.1 6 m_ringCell), (m_AringDrops, z_a G.2.1 6 m_ringDrops), (gr_o, z_o 0 [z_i gr_rows, z_i gr_columns, z_i gr_cells, .ref gr_Akind, .ref gr_Abeside, .ref gr_AbesideBits]), (gr_Akind, z_a G.2.1 36 gr_kind), (gr_Abeside, z_a G.2.1 144 gr_beside), (gr_AbesideBits, z_l G.2.2.1 36 gr_besideBits)]) rfl 3 rfl rfl rfl [] rfl (Nat.le_of_ble_eq_true rfl) ⟨Nat.le_of_ble_eq_true rfl, Nat.le_of_ble_eq_true rfl⟩ ⟨rfl, rfl⟩ ⟨Nat.zero_le _, Nat.zero_le _⟩ (fun hF => ?_)
    obtain ⟨hb_r4, -⟩ := hF
    refine z_if_eq (tgt := 31) C (z_n01 hb_r4) dX5_areTwo_19 (by decide) (fun c6 => ?_) (fun c6 => ?_)
    · have hm := z_pos c6 hm
      refine z_iconst C dX5_areTwo_31 ?_
      cases hm
      exact z_zret C E (Or.inl rfl) dX5_areTwo_32 ⟨rfl, rfl, (Or.inl rfl), trivial⟩
    · have hm := z_neg c6 hm
      refine z_iload_n C dX5_areTwo_22 1 rfl ?_
      refine z_iload_n C dX5_areTwo_23 2 rfl ?_
      refine z_icmp_eq (tgt := 31) C h_x1 h_x2 dX5_areTwo_24 (by decide) (fun c7 => ?_) (fun c7 => ?_)
      · have hm := z_pos c7 hm
        refine z_iconst C dX5_areTwo_31 ?_
        cases hm
        exact z_zret C E (Or.inl rfl) dX5_areTwo_32 ⟨rfl, rfl, (Or.inl rfl), trivial⟩
      · have hm := z_neg c7 hm
        refine z_iconst C dX5_areTwo_27 ?_
        refine z_goto (tgt := 32) C dX5_areTwo_28 (by decide) ?_
        cases hm
        exact z_zret C E (Or.inr rfl) dX5_areTwo_32 ⟨rfl, rfl, (Or.inr rfl), trivial⟩
set_option maxRecDepth 100000 in
theorem k_X2_apart (l : Launch) (G : z_G) (N : Nat) (t_o t_Astate t_Awaiting : Nat) (t_state : (Int → Int)) (t_waiting : (Int → Int)) (t_waits : Int) (t_cells : Int) (t_many : Int) (x1 : Int) (x2 : Int) (h_t_state : z_r t_state) (h_t_waiting : z_r t_waiting) (h_t_waits : z_n t_waits) (h_t_cells : z_n t_cells) (h_t_many : z_n t_many) (h_x1 : z_n x1) (h_x2 : z_n x2) (rr : Int) (hm : m_X2_apart N t_state t_cells x1 x2 = some (rr)) : z_M l G yX2_apart cX2_apart 3 (some .boolean) (k2_rm 1 21) [.ref t_o, z_i x1, z_i x2] ([(t_o, z_o 2 [.ref t_Astate, .ref t_Awaiting, z_i t_waits, z_i t_cells, z_i t_many]), (t_Astate, z_a G.2.1 36 t_state), (t_Awaiting, z_a G.2.1 36 t_waiting)]) 0 0 (fun v w => v = some (z_i rr) ∧ w = [(t_o, z_o 2 [.ref t_Astate, .ref t_Awaiting, z_i t_waits, z_i t_cells, z_i t_many]), (t_Astate, z_a G.2.1 36 t_state), (t_Awaiting, z_a G.2.1 36 t_waiting)] ∧ (rr = 0 ∨ rr = 1) ∧ True) := by
  unfold m_X2_apart at hm
  refine z_M.intro (by decide +kernel) (Nat.le_of_ble_eq_true rfl) (L := [(0, .ref t_o), (1, z_i x1), (2, z_i x2)]) rfl (fun X C E => ?_)
  refine z_aload_n C dX2_apart_0 0 rfl ?_
  refine z_iload_n C dX2_apart_1 1 rfl ?_
  obtain ⟨r1, k2, hm⟩ := z_b1s hm
  refine z_callVi C (k_X2_stateOf l G N t_o t_Astate t_Awaiting t_state t_waiting t_waits t_cells t_many x1 h_t_state h_t_waiting h_t_waits h_t_cells h_t_many h_x1 r1 k2) zv_X2_stateOf zl_X2_54 dX2_apart_2 [0, 1, 2] rfl rfl rfl (ws' := [(t_o, z_o 2 [.ref t_Astate, .ref t_Awaiting, z_i t_waits, z_i t_cells, z_i t_many]), (t_Astate, z_a G.2.1 36 t_state), (t_Awaiting, z_a G.2.1 36 t_waiting)]) rfl 0 rfl rfl rfl [] rfl (Nat.le_of_ble_eq_true rfl) ⟨Nat.le_of_ble_eq_true rfl, Nat.le_of_ble_eq_true rfl⟩ ⟨rfl, rfl⟩ ⟨Nat.zero_le _, Nat.zero_le _⟩ (fun hF => ?_)
  obtain ⟨h_r1, -⟩ := hF
  refine z_bipush C dX2_apart_5 (by decide) ?_
  refine z_icmp_eq (tgt := 23) C h_r1 (z_k (-4) rfl) dX2_apart_7 (by decide) (fun c3 => ?_) (fun c3 => ?_)
  · have hm := z_pos c3 hm
    refine z_iconst C dX2_apart_23 ?_
    refine z_goto (tgt := 28) C dX2_apart_24 (by decide) ?_
    cases hm
    exact z_zret C E (Or.inr rfl) dX2_apart_28 ⟨rfl, rfl, (Or.inr rfl), trivial⟩
  · have hm := z_neg c3 hm
    refine z_aload_n C dX2_apart_10 0 rfl ?_
    refine z_iload_n C dX2_apart_11 1 rfl ?_
    obtain ⟨r4, k5, hm⟩ := z_b1s hm
    refine z_callVi C (k_X2_stateOf l G N t_o t_Astate t_Awaiting t_state t_waiting t_waits t_cells t_many x1 h_t_state h_t_waiting h_t_waits h_t_cells h_t_many h_x1 r4 k5) zv_X2_stateOf zl_X2_54 dX2_apart_12 [0, 1, 2] rfl rfl rfl (ws' := [(t_o, z_o 2 [.ref t_Astate, .ref t_Awaiting, z_i t_waits, z_i t_cells, z_i t_many]), (t_Astate, z_a G.2.1 36 t_state), (t_Awaiting, z_a G.2.1 36 t_waiting)]) rfl 0 rfl rfl rfl [] rfl (Nat.le_of_ble_eq_true rfl) ⟨Nat.le_of_ble_eq_true rfl, Nat.le_of_ble_eq_true rfl⟩ ⟨rfl, rfl⟩ ⟨Nat.zero_le _, Nat.zero_le _⟩ (fun hF => ?_)
    obtain ⟨h_r4, -⟩ := hF
    refine z_aload_n C dX2_apart_15 0 rfl ?_
    refine z_iload_n C dX2_apart_16 2 rfl ?_
    obtain ⟨r6, k7, hm⟩ := z_b1s hm
    refine z_callVi C (k_X2_stateOf l G N t_o t_Astate t_Awaiting t_state t_waiting t_waits t_cells t_many x2 h_t_state h_t_waiting h_t_waits h_t_cells h_t_many h_x2 r6 k7) zv_X2_stateOf zl_X2_54 dX2_apart_17 [0, 1, 2] rfl rfl rfl (ws' := [(t_o, z_o 2 [.ref t_Astate, .ref t_Awaiting, z_i t_waits, z_i t_cells, z_i t_many]), (t_Astate, z_a G.2.1 36 t_state), (t_Awaiting, z_a G.2.1 36 t_waiting)]) rfl 0 rfl rfl rfl [z_i r4] rfl (Nat.le_of_ble_eq_true rfl) ⟨Nat.le_of_ble_eq_true rfl, Nat.le_of_ble_eq_true rfl⟩ ⟨rfl, rfl⟩ ⟨Nat.zero_le _, Nat.zero_le _⟩ (fun hF => ?_)
    obtain ⟨h_r6, -⟩ := hF
    refine z_icmp_eq (tgt := 27) C h_r4 h_r6 dX2_apart_20 (by decide) (fun c8 => ?_) (fun c8 => ?_)
    · have hm := z_pos c8 hm
      refine z_iconst C dX2_apart_27 ?_
      cases hm
      exact z_zret C E (Or.inl rfl) dX2_apart_28 ⟨rfl, rfl, (Or.inl rfl), trivial⟩
    · have hm := z_neg c8 hm
      refine z_iconst C dX2_apart_23 ?_
      refine z_goto (tgt := 28) C dX2_apart_24 (by decide) ?_
      cases hm
      exact z_zret C E (Or.inr rfl) dX2_apart_28 ⟨rfl, rfl, (Or.inr rfl), trivial⟩
set_option maxRecDepth 100000 in
theorem k_X5_apartBehindRain (l : Launch) (G : z_G) (N : Nat) (m_o tx_o gr_o nw_o og_o la_o ss_o un_o kp_o m_AringCell m_AringDrops p_o p_Akind p_Abeside p_AbesideBits nw_Aheight nw_Adrops la_Aheight la_Adrops ss_Astate ss_Awaiting : Nat) (m_ringCell : (Int → Int)) (m_ringDrops : (Int → Int)) (m_rings : Int) (p_rows : Int) (p_columns : Int) (p_cells : Int) (p_kind : (Int → Int)) (p_beside : (Int → Int)) (p_besideBits : (Int → Int64)) (nw_height : (Int → Int)) (nw_drops : (Int → Int)) (nw_hours : Int) (nw_restless : Int64) (la_height : (Int → Int)) (la_drops : (Int → Int)) (la_hours : Int) (la_restless : Int64) (ss_state : (Int → Int)) (ss_waiting : (Int → Int)) (ss_waits : Int) (ss_cells : Int) (ss_many : Int) (x2 : Int) (x3 : Int) (x4 : Int) (h_m_ringCell : z_r m_ringCell) (h_m_ringDrops : z_r m_ringDrops) (h_m_rings : z_n m_rings) (h_p_rows : z_n p_rows) (h_p_columns : z_n p_columns) (h_p_cells : z_n p_cells) (h_p_kind : z_r p_kind) (h_p_beside : z_r p_beside) (h_nw_height : z_r nw_height) (h_nw_drops : z_r nw_drops) (h_nw_hours : z_n nw_hours) (h_la_height : z_r la_height) (h_la_drops : z_r la_drops) (h_la_hours : z_n la_hours) (h_ss_state : z_r ss_state) (h_ss_waiting : z_r ss_waiting) (h_ss_waits : z_n ss_waits) (h_ss_cells : z_n ss_cells) (h_ss_many : z_n ss_many) (h_x2 : z_n x2) (h_x3 : z_n x3) (h_x4 : z_n x4) (rr : Int) (q_la_height : (Int → Int)) (q_la_drops : (Int → Int)) (q_la_hours : Int) (q_la_restless : Int64) (q_ss_state : (Int → Int)) (q_ss_waiting : (Int → Int)) (q_ss_waits : Int) (q_ss_cells : Int) (q_ss_many : Int) (hm : m_X5_apartBehindRain N p_cells p_kind p_beside p_besideBits nw_height nw_drops nw_hours la_height la_drops la_hours la_restless ss_state ss_waiting ss_waits ss_cells ss_many x2 x3 x4 = some (rr, q_la_height, q_la_drops, q_la_hours, q_la_restless, q_ss_state, q_ss_waiting, q_ss_waits, q_ss_cells, q_ss_many)) : z_M l G yX5_apartBehindRain cX5_apartBehindRain 5 (some .boolean) (k2_rm 6 133) [.ref m_o, .ref p_o, z_i x2, z_i x3, z_i x4] ([(m_o, z_o 5 [.ref tx_o, .ref gr_o, .ref nw_o, .ref og_o, .ref la_o, .ref ss_o, .ref un_o, .ref kp_o, .ref m_AringCell, .ref m_AringDrops, z_i m_rings]), (m_AringCell, z_a G.2.1 6 m_ringCell), (m_AringDrops, z_a G.2.1 6 m_ringDrops), (p_o, z_o 0 [z_i p_rows, z_i p_columns, z_i p_cells, .ref p_Akind, .ref p_Abeside, .ref p_AbesideBits]), (p_Akind, z_a G.2.1 36 p_kind), (p_Abeside, z_a G.2.1 144 p_beside), (p_AbesideBits, z_l G.2.2.1 36 p_besideBits), (nw_o, z_o 4 [.ref nw_Aheight, .ref nw_Adrops, z_i nw_hours, .long nw_restless]), (nw_Aheight, z_a G.2.1 36 nw_height), (nw_Adrops, z_a G.2.1 36 nw_drops), (la_o, z_o 4 [.ref la_Aheight, .ref la_Adrops, z_i la_hours, .long la_restless]), (la_Aheight, z_a G.2.1 36 la_height), (la_Adrops, z_a G.2.1 36 la_drops), (ss_o, z_o 2 [.ref ss_Astate, .ref ss_Awaiting, z_i ss_waits, z_i ss_cells, z_i ss_many]), (ss_Astate, z_a G.2.1 36 ss_state), (ss_Awaiting, z_a G.2.1 36 ss_waiting)]) 0 0 (fun v w => v = some (z_i rr) ∧ w = [(m_o, z_o 5 [.ref tx_o, .ref gr_o, .ref nw_o, .ref og_o, .ref la_o, .ref ss_o, .ref un_o, .ref kp_o, .ref m_AringCell, .ref m_AringDrops, z_i m_rings]), (m_AringCell, z_a G.2.1 6 m_ringCell), (m_AringDrops, z_a G.2.1 6 m_ringDrops), (p_o, z_o 0 [z_i p_rows, z_i p_columns, z_i p_cells, .ref p_Akind, .ref p_Abeside, .ref p_AbesideBits]), (p_Akind, z_a G.2.1 36 p_kind), (p_Abeside, z_a G.2.1 144 p_beside), (p_AbesideBits, z_l G.2.2.1 36 p_besideBits), (nw_o, z_o 4 [.ref nw_Aheight, .ref nw_Adrops, z_i nw_hours, .long nw_restless]), (nw_Aheight, z_a G.2.1 36 nw_height), (nw_Adrops, z_a G.2.1 36 nw_drops), (la_o, z_o 4 [.ref la_Aheight, .ref la_Adrops, z_i q_la_hours, .long q_la_restless]), (la_Aheight, z_a G.2.1 36 q_la_height), (la_Adrops, z_a G.2.1 36 q_la_drops), (ss_o, z_o 2 [.ref ss_Astate, .ref ss_Awaiting, z_i q_ss_waits, z_i q_ss_cells, z_i q_ss_many]), (ss_Astate, z_a G.2.1 36 q_ss_state), (ss_Awaiting, z_a G.2.1 36 q_ss_waiting)] ∧ (rr = 0 ∨ rr = 1) ∧ z_r q_la_height ∧ z_r q_la_drops ∧ z_n q_la_hours ∧ z_r q_ss_state ∧ z_r q_ss_waiting ∧ z_n q_ss_waits ∧ z_n q_ss_cells ∧ z_n q_ss_many ∧ True) := by
  unfold m_X5_apartBehindRain at hm
  refine z_M.intro (by decide +kernel) (Nat.le_of_ble_eq_true rfl) (L := [(0, .ref m_o), (1, .ref p_o), (2, z_i x2), (3, z_i x3), (4, z_i x4)]) rfl (fun X C E => ?_)
  refine z_aload_n C dX5_apartBehindRain_0 0 rfl ?_
  refine z_get C zf_X5_33 dX5_apartBehindRain_1 0 rfl rfl ?_
  refine z_aload_n C dX5_apartBehindRain_4 0 rfl ?_
  refine z_get C zf_X5_26 dX5_apartBehindRain_5 0 rfl rfl ?_
  obtain ⟨la_height_1, la_drops_2, la_hours_3, k4, hm⟩ := z_b3s hm
  refine z_callVv C (k_X4_copyFrom l G N la_o la_Aheight la_Adrops nw_o nw_Aheight nw_Adrops la_height la_drops la_hours la_restless nw_height nw_drops nw_hours nw_restless h_la_height h_la_drops h_la_hours h_nw_height h_nw_drops h_nw_hours la_height_1 la_drops_2 la_hours_3 k4) zv_X4_copyFrom zl_X5_162 dX5_apartBehindRain_8 [10, 11, 12, 7, 8, 9] rfl rfl rfl (ws' := [(m_o, z_o 5 [.ref tx_o, .ref gr_o, .ref nw_o, .ref og_o, .ref la_o, .ref ss_o, .ref un_o, .ref kp_o, .ref m_AringCell, .ref m_AringDrops, z_i m_rings]), (m_AringCell, z_a G.2.1 6 m_ringCell), (m_AringDrops, z_a G.2.1 6 m_ringDrops), (p_o, z_o 0 [z_i p_rows, z_i p_columns, z_i p_cells, .ref p_Akind, .ref p_Abeside, .ref p_AbesideBits]), (p_Akind, z_a G.2.1 36 p_kind), (p_Abeside, z_a G.2.1 144 p_beside), (p_AbesideBits, z_l G.2.2.1 36 p_besideBits), (nw_o, z_o 4 [.ref nw_Aheight, .ref nw_Adrops, z_i nw_hours, .long nw_restless]), (nw_Aheight, z_a G.2.1 36 nw_height), (nw_Adrops, z_a G.2.1 36 nw_drops), (la_o, z_o 4 [.ref la_Aheight, .ref la_Adrops, z_i la_hours_3, .long la_restless]), (la_Aheight, z_a G.2.1 36 la_height_1), (la_Adrops, z_a G.2.1 36 la_drops_2), (ss_o, z_o 2 [.ref ss_Astate, .ref ss_Awaiting, z_i ss_waits, z_i ss_cells, z_i ss_many]), (ss_Astate, z_a G.2.1 36 ss_state), (ss_Awaiting, z_a G.2.1 36 ss_waiting)]) rfl 10 rfl rfl rfl [] rfl (Nat.le_of_ble_eq_true rfl) ⟨Nat.le_of_ble_eq_true rfl, Nat.le_of_ble_eq_true rfl⟩ ⟨rfl, rfl⟩ ⟨Nat.zero_le _, Nat.zero_le _⟩ (fun hF => ?_)
  obtain ⟨h_la_height_1, h_la_drops_2, h_la_hours_3, -⟩ := hF
  refine z_aload_n C dX5_apartBehindRain_11 0 rfl ?_
  refine z_get C zf_X5_33 dX5_apartBehindRain_12 0 rfl rfl ?_
  refine z_aload_n C dX5_apartBehindRain_15 1 rfl ?_
  refine z_iload C dX5_apartBehindRain_16 4 rfl ?_
  obtain ⟨la_drops_5, la_restless_6, k7, hm⟩ := z_b2s hm
  refine z_callVv C (k_X4_pour l G N la_o la_Aheight la_Adrops p_o p_Akind p_Abeside p_AbesideBits la_height_1 la_drops_2 la_hours_3 la_restless p_rows p_columns p_cells p_kind p_beside p_besideBits x4 h_la_height_1 h_la_drops_2 h_la_hours_3 h_p_rows h_p_columns h_p_cells h_p_kind h_p_beside h_x4 la_drops_5 la_restless_6 k7) zv_X4_pour zl_X5_132 dX5_apartBehindRain_18 [10, 11, 12, 3, 4, 5, 6] rfl rfl rfl (ws' := [(m_o, z_o 5 [.ref tx_o, .ref gr_o, .ref nw_o, .ref og_o, .ref la_o, .ref ss_o, .ref un_o, .ref kp_o, .ref m_AringCell, .ref m_AringDrops, z_i m_rings]), (m_AringCell, z_a G.2.1 6 m_ringCell), (m_AringDrops, z_a G.2.1 6 m_ringDrops), (p_o, z_o 0 [z_i p_rows, z_i p_columns, z_i p_cells, .ref p_Akind, .ref p_Abeside, .ref p_AbesideBits]), (p_Akind, z_a G.2.1 36 p_kind), (p_Abeside, z_a G.2.1 144 p_beside), (p_AbesideBits, z_l G.2.2.1 36 p_besideBits), (nw_o, z_o 4 [.ref nw_Aheight, .ref nw_Adrops, z_i nw_hours, .long nw_restless]), (nw_Aheight, z_a G.2.1 36 nw_height), (nw_Adrops, z_a G.2.1 36 nw_drops), (la_o, z_o 4 [.ref la_Aheight, .ref la_Adrops, z_i la_hours_3, .long la_restless_6]), (la_Aheight, z_a G.2.1 36 la_height_1), (la_Adrops, z_a G.2.1 36 la_drops_5), (ss_o, z_o 2 [.ref ss_Astate, .ref ss_Awaiting, z_i ss_waits, z_i ss_cells, z_i ss_many]), (ss_Astate, z_a G.2.1 36 ss_state), (ss_Awaiting, z_a G.2.1 36 ss_waiting)]) rfl 10 rfl rfl rfl [] rfl (Nat.le_of_ble_eq_true rfl) ⟨Nat.le_of_ble_eq_true rfl, Nat.le_of_ble_eq_true rfl⟩ ⟨rfl, rfl⟩ ⟨Nat.zero_le _, Nat.zero_le _⟩ (fun hF => ?_)
  obtain ⟨h_la_drops_5, -⟩ := hF
  refine z_aload_n C dX5_apartBehindRain_21 0 rfl ?_
  refine z_get C zf_X5_39 dX5_apartBehindRain_22 0 rfl rfl ?_
  refine z_aload_n C dX5_apartBehindRain_25 1 rfl ?_
  refine z_aload_n C dX5_apartBehindRain_26 0 rfl ?_
  refine z_get C zf_X5_33 dX5_apartBehindRain_27 0 rfl rfl ?_
  obtain ⟨ss_state_8, ss_waiting_9, ss_waits_10, ss_cells_11, ss_many_12, k13, hm⟩ := z_b5s hm
  refine z_callVv C (k_X2_map l G N ss_o ss_Astate ss_Awaiting p_o p_Akind p_Abeside p_AbesideBits la_o la_Aheight la_Adrops ss_state ss_waiting ss_waits ss_cells ss_many p_rows p_columns p_cells p_kind p_beside p_besideBits la_height_1 la_drops_5 la_hours_3 la_restless_6 h_ss_state h_ss_waiting h_ss_waits h_ss_cells h_ss_many h_p_rows h_p_columns h_p_cells h_p_kind h_p_beside h_la_height_1 h_la_drops_5 h_la_hours_3 ss_state_8 ss_waiting_9 ss_waits_10 ss_cells_11 ss_many_12 k13) zv_X2_map zl_X5_113 dX5_apartBehindRain_30 [13, 14, 15, 3, 4, 5, 6, 10, 11, 12] rfl rfl rfl (ws' := [(m_o, z_o 5 [.ref tx_o, .ref gr_o, .ref nw_o, .ref og_o, .ref la_o, .ref ss_o, .ref un_o, .ref kp_o, .ref m_AringCell, .ref m_AringDrops, z_i m_rings]), (m_AringCell, z_a G.2.1 6 m_ringCell), (m_AringDrops, z_a G.2.1 6 m_ringDrops), (p_o, z_o 0 [z_i p_rows, z_i p_columns, z_i p_cells, .ref p_Akind, .ref p_Abeside, .ref p_AbesideBits]), (p_Akind, z_a G.2.1 36 p_kind), (p_Abeside, z_a G.2.1 144 p_beside), (p_AbesideBits, z_l G.2.2.1 36 p_besideBits), (nw_o, z_o 4 [.ref nw_Aheight, .ref nw_Adrops, z_i nw_hours, .long nw_restless]), (nw_Aheight, z_a G.2.1 36 nw_height), (nw_Adrops, z_a G.2.1 36 nw_drops), (la_o, z_o 4 [.ref la_Aheight, .ref la_Adrops, z_i la_hours_3, .long la_restless_6]), (la_Aheight, z_a G.2.1 36 la_height_1), (la_Adrops, z_a G.2.1 36 la_drops_5), (ss_o, z_o 2 [.ref ss_Astate, .ref ss_Awaiting, z_i ss_waits_10, z_i ss_cells_11, z_i ss_many_12]), (ss_Astate, z_a G.2.1 36 ss_state_8), (ss_Awaiting, z_a G.2.1 36 ss_waiting_9)]) rfl 13 rfl rfl rfl [] rfl (Nat.le_of_ble_eq_true rfl) ⟨Nat.le_of_ble_eq_true rfl, Nat.le_of_ble_eq_true rfl⟩ ⟨rfl, rfl⟩ ⟨Nat.zero_le _, Nat.zero_le _⟩ (fun hF => ?_)
  obtain ⟨h_ss_state_8, h_ss_waiting_9, h_ss_waits_10, h_ss_cells_11, h_ss_many_12, -⟩ := hF
  refine z_aload_n C dX5_apartBehindRain_33 0 rfl ?_
  refine z_get C zf_X5_39 dX5_apartBehindRain_34 0 rfl rfl ?_
  refine z_iload_n C dX5_apartBehindRain_37 2 rfl ?_
  refine z_iload_n C dX5_apartBehindRain_38 3 rfl ?_
  obtain ⟨r14, k15, hm⟩ := z_b1s hm
  refine z_callVi C (k_X2_apart l G N ss_o ss_Astate ss_Awaiting ss_state_8 ss_waiting_9 ss_waits_10 ss_cells_11 ss_many_12 x2 x3 h_ss_state_8 h_ss_waiting_9 h_ss_waits_10 h_ss_cells_11 h_ss_many_12 h_x2 h_x3 r14 k15) zv_X2_apart zl_X5_179 dX5_apartBehindRain_39 [13, 14, 15] rfl rfl rfl (ws' := [(m_o, z_o 5 [.ref tx_o, .ref gr_o, .ref nw_o, .ref og_o, .ref la_o, .ref ss_o, .ref un_o, .ref kp_o, .ref m_AringCell, .ref m_AringDrops, z_i m_rings]), (m_AringCell, z_a G.2.1 6 m_ringCell), (m_AringDrops, z_a G.2.1 6 m_ringDrops), (p_o, z_o 0 [z_i p_rows, z_i p_columns, z_i p_cells, .ref p_Akind, .ref p_Abeside, .ref p_AbesideBits]), (p_Akind, z_a G.2.1 36 p_kind), (p_Abeside, z_a G.2.1 144 p_beside), (p_AbesideBits, z_l G.2.2.1 36 p_besideBits), (nw_o, z_o 4 [.ref nw_Aheight, .ref nw_Adrops, z_i nw_hours, .long nw_restless]), (nw_Aheight, z_a G.2.1 36 nw_height), (nw_Adrops, z_a G.2.1 36 nw_drops), (la_o, z_o 4 [.ref la_Aheight, .ref la_Adrops, z_i la_hours_3, .long la_restless_6]), (la_Aheight, z_a G.2.1 36 la_height_1), (la_Adrops, z_a G.2.1 36 la_drops_5), (ss_o, z_o 2 [.ref ss_Astate, .ref ss_Awaiting, z_i ss_waits_10, z_i ss_cells_11, z_i ss_many_12]), (ss_Astate, z_a G.2.1 36 ss_state_8), (ss_Awaiting, z_a G.2.1 36 ss_waiting_9)]) rfl 13 rfl rfl rfl [] rfl (Nat.le_of_ble_eq_true rfl) ⟨Nat.le_of_ble_eq_true rfl, Nat.le_of_ble_eq_true rfl⟩ ⟨rfl, rfl⟩ ⟨Nat.zero_le _, Nat.zero_le _⟩ (fun hF => ?_)
  obtain ⟨hb_r14, -⟩ := hF
  cases hm
  exact z_zret C E hb_r14 dX5_apartBehindRain_42 ⟨rfl, rfl, hb_r14, h_la_height_1, h_la_drops_5, h_la_hours_3, h_ss_state_8, h_ss_waiting_9, h_ss_waits_10, h_ss_cells_11, h_ss_many_12, trivial⟩
set_option maxRecDepth 100000 in
theorem k_X5_join (l : Launch) (G : z_G) (N : Nat) (m_o tx_o gr_o nw_o og_o la_o ss_o un_o kp_o m_AringCell m_AringDrops gr_Akind gr_Abeside gr_AbesideBits nw_Aheight nw_Adrops la_Aheight la_Adrops ss_Astate ss_Awaiting : Nat) (m_ringCell : (Int → Int)) (m_ringDrops : (Int → Int)) (m_rings : Int) (gr_rows : Int) (gr_columns : Int) (gr_cells : Int) (gr_kind : (Int → Int)) (gr_beside : (Int → Int)) (gr_besideBits : (Int → Int64)) (nw_height : (Int → Int)) (nw_drops : (Int → Int)) (nw_hours : Int) (nw_restless : Int64) (la_height : (Int → Int)) (la_drops : (Int → Int)) (la_hours : Int) (la_restless : Int64) (ss_state : (Int → Int)) (ss_waiting : (Int → Int)) (ss_waits : Int) (ss_cells : Int) (ss_many : Int) (x1 : Int) (x2 : Int) (h_m_ringCell : z_r m_ringCell) (h_m_ringDrops : z_r m_ringDrops) (h_m_rings : z_n m_rings) (h_gr_rows : z_n gr_rows) (h_gr_columns : z_n gr_columns) (h_gr_cells : z_n gr_cells) (h_gr_kind : z_r gr_kind) (h_gr_beside : z_r gr_beside) (h_nw_height : z_r nw_height) (h_nw_drops : z_r nw_drops) (h_nw_hours : z_n nw_hours) (h_la_height : z_r la_height) (h_la_drops : z_r la_drops) (h_la_hours : z_n la_hours) (h_ss_state : z_r ss_state) (h_ss_waiting : z_r ss_waiting) (h_ss_waits : z_n ss_waits) (h_ss_cells : z_n ss_cells) (h_ss_many : z_n ss_many) (h_x1 : z_n x1) (h_x2 : z_n x2) (rr : Int) (q_la_height : (Int → Int)) (q_la_drops : (Int → Int)) (q_la_hours : Int) (q_la_restless : Int64) (q_ss_state : (Int → Int)) (q_ss_waiting : (Int → Int)) (q_ss_waits : Int) (q_ss_cells : Int) (q_ss_many : Int) (hm : m_X5_join N gr_cells gr_kind gr_beside gr_besideBits nw_height nw_drops nw_hours la_height la_drops la_hours la_restless ss_state ss_waiting ss_waits ss_cells ss_many x1 x2 = some (rr, q_la_height, q_la_drops, q_la_hours, q_la_restless, q_ss_state, q_ss_waiting, q_ss_waits, q_ss_cells, q_ss_many)) : z_M l G yX5_join cX5_join 4 (some .int) (k2_rm 7 157) [.ref m_o, z_i x1, z_i x2] ([(m_o, z_o 5 [.ref tx_o, .ref gr_o, .ref nw_o, .ref og_o, .ref la_o, .ref ss_o, .ref un_o, .ref kp_o, .ref m_AringCell, .ref m_AringDrops, z_i m_rings]), (m_AringCell, z_a G.2.1 6 m_ringCell), (m_AringDrops, z_a G.2.1 6 m_ringDrops), (gr_o, z_o 0 [z_i gr_rows, z_i gr_columns, z_i gr_cells, .ref gr_Akind, .ref gr_Abeside, .ref gr_AbesideBits]), (gr_Akind, z_a G.2.1 36 gr_kind), (gr_Abeside, z_a G.2.1 144 gr_beside), (gr_AbesideBits, z_l G.2.2.1 36 gr_besideBits), (nw_o, z_o 4 [.ref nw_Aheight, .ref nw_Adrops, z_i nw_hours, .long nw_restless]), (nw_Aheight, z_a G.2.1 36 nw_height), (nw_Adrops, z_a G.2.1 36 nw_drops), (la_o, z_o 4 [.ref la_Aheight, .ref la_Adrops, z_i la_hours, .long la_restless]), (la_Aheight, z_a G.2.1 36 la_height), (la_Adrops, z_a G.2.1 36 la_drops), (ss_o, z_o 2 [.ref ss_Astate, .ref ss_Awaiting, z_i ss_waits, z_i ss_cells, z_i ss_many]), (ss_Astate, z_a G.2.1 36 ss_state), (ss_Awaiting, z_a G.2.1 36 ss_waiting)]) 0 0 (fun v w => v = some (z_i rr) ∧ w = [(m_o, z_o 5 [.ref tx_o, .ref gr_o, .ref nw_o, .ref og_o, .ref la_o, .ref ss_o, .ref un_o, .ref kp_o, .ref m_AringCell, .ref m_AringDrops, z_i m_rings]), (m_AringCell, z_a G.2.1 6 m_ringCell), (m_AringDrops, z_a G.2.1 6 m_ringDrops), (gr_o, z_o 0 [z_i gr_rows, z_i gr_columns, z_i gr_cells, .ref gr_Akind, .ref gr_Abeside, .ref gr_AbesideBits]), (gr_Akind, z_a G.2.1 36 gr_kind), (gr_Abeside, z_a G.2.1 144 gr_beside), (gr_AbesideBits, z_l G.2.2.1 36 gr_besideBits), (nw_o, z_o 4 [.ref nw_Aheight, .ref nw_Adrops, z_i nw_hours, .long nw_restless]), (nw_Aheight, z_a G.2.1 36 nw_height), (nw_Adrops, z_a G.2.1 36 nw_drops), (la_o, z_o 4 [.ref la_Aheight, .ref la_Adrops, z_i q_la_hours, .long q_la_restless]), (la_Aheight, z_a G.2.1 36 q_la_height), (la_Adrops, z_a G.2.1 36 q_la_drops), (ss_o, z_o 2 [.ref ss_Astate, .ref ss_Awaiting, z_i q_ss_waits, z_i q_ss_cells, z_i q_ss_many]), (ss_Astate, z_a G.2.1 36 q_ss_state), (ss_Awaiting, z_a G.2.1 36 q_ss_waiting)] ∧ z_n rr ∧ z_r q_la_height ∧ z_r q_la_drops ∧ z_n q_la_hours ∧ z_r q_ss_state ∧ z_r q_ss_waiting ∧ z_n q_ss_waits ∧ z_n q_ss_cells ∧ z_n q_ss_many ∧ True) := by
  unfold m_X5_join at hm
  refine z_M.intro (by decide +kernel) (Nat.le_of_ble_eq_true rfl) (L := [(0, .ref m_o), (1, z_i x1), (2, z_i x2)]) rfl (fun X C E => ?_)
  refine z_aload_n C dX5_join_0 0 rfl ?_
  refine z_iload_n C dX5_join_1 1 rfl ?_
  refine z_iload_n C dX5_join_2 2 rfl ?_
  obtain ⟨r1, k2, hm⟩ := z_b1s hm
  refine z_callVi C (k_X5_areTwo l G N m_o tx_o gr_o nw_o og_o la_o ss_o un_o kp_o m_AringCell m_AringDrops gr_Akind gr_Abeside gr_AbesideBits m_ringCell m_ringDrops m_rings gr_rows gr_columns gr_cells gr_kind gr_beside gr_besideBits x1 x2 h_m_ringCell h_m_ringDrops h_m_rings h_gr_rows h_gr_columns h_gr_cells h_gr_kind h_gr_beside h_x1 h_x2 r1 k2) zv_X5_areTwo zl_X5_171 dX5_join_3 [0, 1, 2, 3, 4, 5, 6] rfl rfl rfl (ws' := [(m_o, z_o 5 [.ref tx_o, .ref gr_o, .ref nw_o, .ref og_o, .ref la_o, .ref ss_o, .ref un_o, .ref kp_o, .ref m_AringCell, .ref m_AringDrops, z_i m_rings]), (m_AringCell, z_a G.2.1 6 m_ringCell), (m_AringDrops, z_a G.2.1 6 m_ringDrops), (gr_o, z_o 0 [z_i gr_rows, z_i gr_columns, z_i gr_cells, .ref gr_Akind, .ref gr_Abeside, .ref gr_AbesideBits]), (gr_Akind, z_a G.2.1 36 gr_kind), (gr_Abeside, z_a G.2.1 144 gr_beside), (gr_AbesideBits, z_l G.2.2.1 36 gr_besideBits), (nw_o, z_o 4 [.ref nw_Aheight, .ref nw_Adrops, z_i nw_hours, .long nw_restless]), (nw_Aheight, z_a G.2.1 36 nw_height), (nw_Adrops, z_a G.2.1 36 nw_drops), (la_o, z_o 4 [.ref la_Aheight, .ref la_Adrops, z_i la_hours, .long la_restless]), (la_Aheight, z_a G.2.1 36 la_height), (la_Adrops, z_a G.2.1 36 la_drops), (ss_o, z_o 2 [.ref ss_Astate, .ref ss_Awaiting, z_i ss_waits, z_i ss_cells, z_i ss_many]), (ss_Astate, z_a G.2.1 36 ss_state), (ss_Awaiting, z_a G.2.1 36 ss_waiting)]) rfl 0 rfl rfl rfl [] rfl (Nat.le_of_ble_eq_true rfl) ⟨Nat.le_of_ble_eq_true rfl, Nat.le_of_ble_eq_true rfl⟩ ⟨rfl, rfl⟩ ⟨Nat.zero_le _, Nat.zero_le _⟩ (fun hF => ?_)
  obtain ⟨hb_r1, -⟩ := hF
  refine z_if_ne (tgt := 11) C (z_n01 hb_r1) dX5_join_6 (by decide) (fun c3 => ?_) (fun c3 => ?_)
  · have hm := z_pos c3 hm
    refine z_iconst C dX5_join_11 ?_
    refine z_istore_n C dX5_join_12 (by decide) (L' := [(3, z_i 0), (0, .ref m_o), (1, z_i x1), (2, z_i x2)]) rfl ?_
    have L1 : ∀ (n1 : Nat) (v3_1 : Int) (la_height_1 : (Int → Int)) (la_drops_1 : (Int → Int)) (la_hours_1 : Int) (la_restless_1 : Int64) (ss_state_1 : (Int → Int)) (ss_waiting_1 : (Int → Int)) (ss_waits_1 : Int) (ss_cells_1 : Int) (ss_many_1 : Int), z_n v3_1 → z_r la_height_1 → z_r la_drops_1 → z_n la_hours_1 → z_r ss_state_1 → z_r ss_waiting_1 → z_n ss_waits_1 → z_n ss_cells_1 → z_n ss_many_1 → m_X5_join_l1 N gr_cells gr_kind gr_beside gr_besideBits nw_height nw_drops nw_hours x1 x2 n1 v3_1 la_height_1 la_drops_1 la_hours_1 la_restless_1 ss_state_1 ss_waiting_1 ss_waits_1 ss_cells_1 ss_many_1 = some (rr, q_la_height, q_la_drops, q_la_hours, q_la_restless, q_ss_state, q_ss_waiting, q_ss_waits, q_ss_cells, q_ss_many) → z_J X 0 0 ([(m_o, z_o 5 [.ref tx_o, .ref gr_o, .ref nw_o, .ref og_o, .ref la_o, .ref ss_o, .ref un_o, .ref kp_o, .ref m_AringCell, .ref m_AringDrops, z_i m_rings]), (m_AringCell, z_a G.2.1 6 m_ringCell), (m_AringDrops, z_a G.2.1 6 m_ringDrops), (gr_o, z_o 0 [z_i gr_rows, z_i gr_columns, z_i gr_cells, .ref gr_Akind, .ref gr_Abeside, .ref gr_AbesideBits]), (gr_Akind, z_a G.2.1 36 gr_kind), (gr_Abeside, z_a G.2.1 144 gr_beside), (gr_AbesideBits, z_l G.2.2.1 36 gr_besideBits), (nw_o, z_o 4 [.ref nw_Aheight, .ref nw_Adrops, z_i nw_hours, .long nw_restless]), (nw_Aheight, z_a G.2.1 36 nw_height), (nw_Adrops, z_a G.2.1 36 nw_drops), (la_o, z_o 4 [.ref la_Aheight, .ref la_Adrops, z_i la_hours_1, .long la_restless_1]), (la_Aheight, z_a G.2.1 36 la_height_1), (la_Adrops, z_a G.2.1 36 la_drops_1), (ss_o, z_o 2 [.ref ss_Astate, .ref ss_Awaiting, z_i ss_waits_1, z_i ss_cells_1, z_i ss_many_1]), (ss_Astate, z_a G.2.1 36 ss_state_1), (ss_Awaiting, z_a G.2.1 36 ss_waiting_1)]) [(0, .ref m_o), (1, z_i x1), (2, z_i x2), (3, z_i v3_1)] 13 [] := by
      clear hm
      intro n1
      induction n1 with
      | zero =>
        intro v3_1 la_height_1 la_drops_1 la_hours_1 la_restless_1 ss_state_1 ss_waiting_1 ss_waits_1 ss_cells_1 ss_many_1 h_v3_1 h_la_height_1 h_la_drops_1 h_la_hours_1 h_ss_state_1 h_ss_waiting_1 h_ss_waits_1 h_ss_cells_1 h_ss_many_1 hm
        rw [m_X5_join_l1] at hm
        cases hm
      | succ n1 ih1 =>
        intro v3_1 la_height_1 la_drops_1 la_hours_1 la_restless_1 ss_state_1 ss_waiting_1 ss_waits_1 ss_cells_1 ss_many_1 h_v3_1 h_la_height_1 h_la_drops_1 h_la_hours_1 h_ss_state_1 h_ss_waiting_1 h_ss_waits_1 h_ss_cells_1 h_ss_many_1 hm
        rw [m_X5_join_l1] at hm
        refine z_iload_n C dX5_join_13 3 rfl ?_
        refine z_bipush C dX5_join_14 (by decide) ?_
        refine z_icmp_gt (tgt := 41) C h_v3_1 (z_k 30 rfl) dX5_join_16 (by decide) (fun c4 => ?_) (fun c4 => ?_)
        · have hm := z_pos c4 hm
          refine z_bipush C dX5_join_41 (by decide) ?_
          cases hm
          exact z_iret C E dX5_join_43 ⟨rfl, rfl, (z_k (-4) rfl), h_la_height_1, h_la_drops_1, h_la_hours_1, h_ss_state_1, h_ss_waiting_1, h_ss_waits_1, h_ss_cells_1, h_ss_many_1, trivial⟩
        · have hm := z_neg c4 hm
          refine z_aload_n C dX5_join_19 0 rfl ?_
          refine z_aload_n C dX5_join_20 0 rfl ?_
          refine z_get C zf_X5_19 dX5_join_21 0 rfl rfl ?_
          refine z_iload_n C dX5_join_24 1 rfl ?_
          refine z_iload_n C dX5_join_25 2 rfl ?_
          refine z_iload_n C dX5_join_26 3 rfl ?_
          obtain ⟨r5, la_height_6, la_drops_7, la_hours_8, la_restless_9, ss_state_10, ss_waiting_11, ss_waits_12, ss_cells_13, ss_many_14, k15, hm⟩ := z_b10s hm
          refine z_callVid C (k_X5_apartBehindRain l G N m_o tx_o gr_o nw_o og_o la_o ss_o un_o kp_o m_AringCell m_AringDrops gr_o gr_Akind gr_Abeside gr_AbesideBits nw_Aheight nw_Adrops la_Aheight la_Adrops ss_Astate ss_Awaiting m_ringCell m_ringDrops m_rings gr_rows gr_columns gr_cells gr_kind gr_beside gr_besideBits nw_height nw_drops nw_hours nw_restless la_height_1 la_drops_1 la_hours_1 la_restless_1 ss_state_1 ss_waiting_1 ss_waits_1 ss_cells_1 ss_many_1 x1 x2 v3_1 h_m_ringCell h_m_ringDrops h_m_rings h_gr_rows h_gr_columns h_gr_cells h_gr_kind h_gr_beside h_nw_height h_nw_drops h_nw_hours h_la_height_1 h_la_drops_1 h_la_hours_1 h_ss_state_1 h_ss_waiting_1 h_ss_waits_1 h_ss_cells_1 h_ss_many_1 h_x1 h_x2 h_v3_1 r5 la_height_6 la_drops_7 la_hours_8 la_restless_9 ss_state_10 ss_waiting_11 ss_waits_12 ss_cells_13 ss_many_14 k15) zv_X5_apartBehindRain zl_X5_175 dX5_join_27 rfl 0 rfl rfl rfl [] rfl (Nat.le_of_ble_eq_true rfl) ⟨Nat.le_of_ble_eq_true rfl, Nat.le_of_ble_eq_true rfl⟩ ⟨rfl, rfl⟩ ⟨Nat.zero_le _, Nat.zero_le _⟩ (fun hF => ?_)
          obtain ⟨hb_r5, h_la_height_6, h_la_drops_7, h_la_hours_8, h_ss_state_10, h_ss_waiting_11, h_ss_waits_12, h_ss_cells_13, h_ss_many_14, -⟩ := hF
          refine z_if_ne (tgt := 35) C (z_n01 hb_r5) dX5_join_30 (by decide) (fun c16 => ?_) (fun c16 => ?_)
          · have hm := z_pos c16 hm
            obtain ⟨c17, hm⟩ := z_chk_some hm
            refine z_iinc C dX5_join_35 3 rfl (by decide) (L' := [(3, z_i (v3_1 + 1)), (0, .ref m_o), (1, z_i x1), (2, z_i x2)]) rfl ?_
            refine z_goto (tgt := 13) C dX5_join_38 (by decide) ?_
            refine z_sub (L' := [(0, .ref m_o), (1, z_i x1), (2, z_i x2), (3, z_i (v3_1 + 1))]) [1, 2, 3, 0] rfl ?_
            exact ih1 (v3_1 + 1) la_height_6 la_drops_7 la_hours_8 la_restless_9 ss_state_10 ss_waiting_11 ss_waits_12 ss_cells_13 ss_many_14 c17 h_la_height_6 h_la_drops_7 h_la_hours_8 h_ss_state_10 h_ss_waiting_11 h_ss_waits_12 h_ss_cells_13 h_ss_many_14 hm
          · have hm := z_neg c16 hm
            refine z_iload_n C dX5_join_33 3 rfl ?_
            cases hm
            exact z_iret C E dX5_join_34 ⟨rfl, rfl, h_v3_1, h_la_height_6, h_la_drops_7, h_la_hours_8, h_ss_state_10, h_ss_waiting_11, h_ss_waits_12, h_ss_cells_13, h_ss_many_14, trivial⟩
    refine z_sub (L' := [(0, .ref m_o), (1, z_i x1), (2, z_i x2), (3, z_i 0)]) [1, 2, 3, 0] rfl ?_
    exact L1 N 0 la_height la_drops la_hours la_restless ss_state ss_waiting ss_waits ss_cells ss_many (z_k 0 rfl) h_la_height h_la_drops h_la_hours h_ss_state h_ss_waiting h_ss_waits h_ss_cells h_ss_many hm
  · have hm := z_neg c3 hm
    refine z_iconst C dX5_join_9 ?_
    cases hm
    exact z_iret C E dX5_join_10 ⟨rfl, rfl, (z_k (-1) rfl), h_la_height, h_la_drops, h_la_hours, h_ss_state, h_ss_waiting, h_ss_waits, h_ss_cells, h_ss_many, trivial⟩
