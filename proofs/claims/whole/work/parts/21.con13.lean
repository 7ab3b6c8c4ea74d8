set_option maxRecDepth 100000 in
theorem k_J6_bitCount_0f7a4 (l : Launch) (G : z_G) (N : Nat) (x0 : Int) (h_x0 : z_n x0) (rr : Int) (hm : m_J6_bitCount_0f7a4 N x0 = some (rr)) : z_M l G yJ6_bitCount_0f7a4 cJ6_bitCount_0f7a4 1 (some .int) (k2_rm 0 0) [z_i x0] ([]) 0 0 (fun v w => v = some (z_i rr) ∧ w = [] ∧ z_n rr ∧ True) := by
  unfold m_J6_bitCount_0f7a4 at hm
  refine z_M.intro (by decide +kernel) (Nat.le_of_ble_eq_true rfl) (L := [(0, z_i x0)]) rfl (fun X C E => ?_)
  refine z_iload_n C dJ6_bitCount_0f7a4_0 0 rfl ?_
  refine z_iload_n C dJ6_bitCount_0f7a4_1 0 rfl ?_
  refine z_iconst C dJ6_bitCount_0f7a4_2 ?_
  refine z_iushr C dJ6_bitCount_0f7a4_3 ?_
  refine z_ldcw C zc_J6_265 dJ6_bitCount_0f7a4_4 ?_
  refine z_iand C dJ6_bitCount_0f7a4_7 ?_
  obtain ⟨c1, hm⟩ := z_chk_some hm
  refine z_isub C dJ6_bitCount_0f7a4_8 ?_
  refine z_istore_n C dJ6_bitCount_0f7a4_9 (by decide) (L' := [(0, z_i (x0 - (z_and (z_ushr x0 1) 1431655765)))]) rfl ?_
  refine z_iload_n C dJ6_bitCount_0f7a4_10 0 rfl ?_
  refine z_ldcw C zc_J6_266 dJ6_bitCount_0f7a4_11 ?_
  refine z_iand C dJ6_bitCount_0f7a4_14 ?_
  refine z_iload_n C dJ6_bitCount_0f7a4_15 0 rfl ?_
  refine z_iconst C dJ6_bitCount_0f7a4_16 ?_
  refine z_iushr C dJ6_bitCount_0f7a4_17 ?_
  refine z_ldcw C zc_J6_266 dJ6_bitCount_0f7a4_18 ?_
  refine z_iand C dJ6_bitCount_0f7a4_21 ?_
  obtain ⟨c2, hm⟩ := z_chk_some hm
  refine z_iadd C dJ6_bitCount_0f7a4_22 ?_
  refine z_istore_n C dJ6_bitCount_0f7a4_23 (by decide) (L' := [(0, z_i ((z_and (x0 - (z_and (z_ushr x0 1) 1431655765)) 858993459) + (z_and (z_ushr (x0 - (z_and (z_ushr x0 1) 1431655765)) 2) 858993459)))]) rfl ?_
  refine z_iload_n C dJ6_bitCount_0f7a4_24 0 rfl ?_
  refine z_iload_n C dJ6_bitCount_0f7a4_25 0 rfl ?_
  refine z_iconst C dJ6_bitCount_0f7a4_26 ?_
  refine z_iushr C dJ6_bitCount_0f7a4_27 ?_
  obtain ⟨c3, hm⟩ := z_chk_some hm
  refine z_iadd C dJ6_bitCount_0f7a4_28 ?_
  refine z_ldcw C zc_J6_267 dJ6_bitCount_0f7a4_29 ?_
  refine z_iand C dJ6_bitCount_0f7a4_32 ?_
  refine z_istore_n C dJ6_bitCount_0f7a4_33 (by decide) (L' := [(0, z_i (z_and (((z_and (x0 - (z_and (z_ushr x0 1) 1431655765)) 858993459) + (z_and (z_ushr (x0 - (z_and (z_ushr x0 1) 1431655765)) 2) 858993459)) + (z_ushr ((z_and (x0 - (z_and (z_ushr x0 1) 1431655765)) 858993459) + (z_and (z_ushr (x0 - (z_and (z_ushr x0 1) 1431655765)) 2) 858993459)) 4)) 252645135))]) rfl ?_
  refine z_iload_n C dJ6_bitCount_0f7a4_34 0 rfl ?_
  refine z_iload_n C dJ6_bitCount_0f7a4_35 0 rfl ?_
  refine z_bipush C dJ6_bitCount_0f7a4_36 (by decide) ?_
  refine z_iushr C dJ6_bitCount_0f7a4_38 ?_
  obtain ⟨c4, hm⟩ := z_chk_some hm
  refine z_iadd C dJ6_bitCount_0f7a4_39 ?_
  refine z_istore_n C dJ6_bitCount_0f7a4_40 (by decide) (L' := [(0, z_i ((z_and (((z_and (x0 - (z_and (z_ushr x0 1) 1431655765)) 858993459) + (z_and (z_ushr (x0 - (z_and (z_ushr x0 1) 1431655765)) 2) 858993459)) + (z_ushr ((z_and (x0 - (z_and (z_ushr x0 1) 1431655765)) 858993459) + (z_and (z_ushr (x0 - (z_and (z_ushr x0 1) 1431655765)) 2) 858993459)) 4)) 252645135) + (z_ushr (z_and (((z_and (x0 - (z_and (z_ushr x0 1) 1431655765)) 858993459) + (z_and (z_ushr (x0 - (z_and (z_ushr x0 1) 1431655765)) 2) 858993459)) + (z_ushr ((z_and (x0 - (z_and (z_ushr x0 1) 1431655765)) 858993459) + (z_and (z_ushr (x0 - (z_and (z_ushr x0 1) 1431655765)) 2) 858993459)) 4)) 252645135) 8)))]) rfl ?_
  refine z_iload_n C dJ6_bitCount_0f7a4_41 0 rfl ?_
  refine z_iload_n C dJ6_bitCount_0f7a4_42 0 rfl ?_
  refine z_bipush C dJ6_bitCount_0f7a4_43 (by decide) ?_
  refine z_iushr C dJ6_bitCount_0f7a4_45 ?_
  obtain ⟨c5, hm⟩ := z_chk_some hm
  refine z_iadd C dJ6_bitCount_0f7a4_46 ?_
  refine z_istore_n C dJ6_bitCount_0f7a4_47 (by decide) (L' := [(0, z_i (((z_and (((z_and (x0 - (z_and (z_ushr x0 1) 1431655765)) 858993459) + (z_and (z_ushr (x0 - (z_and (z_ushr x0 1) 1431655765)) 2) 858993459)) + (z_ushr ((z_and (x0 - (z_and (z_ushr x0 1) 1431655765)) 858993459) + (z_and (z_ushr (x0 - (z_and (z_ushr x0 1) 1431655765)) 2) 858993459)) 4)) 252645135) + (z_ushr (z_and (((z_and (x0 - (z_and (z_ushr x0 1) 1431655765)) 858993459) + (z_and (z_ushr (x0 - (z_and (z_ushr x0 1) 1431655765)) 2) 858993459)) + (z_ushr ((z_and (x0 - (z_and (z_ushr x0 1) 1431655765)) 858993459) + (z_and (z_ushr (x0 - (z_and (z_ushr x0 1) 1431655765)) 2) 858993459)) 4)) 252645135) 8)) + (z_ushr ((z_and (((z_and (x0 - (z_and (z_ushr x0 1) 1431655765)) 858993459) + (z_and (z_ushr (x0 - (z_and (z_ushr x0 1) 1431655765)) 2) 858993459)) + (z_ushr ((z_and (x0 - (z_and (z_ushr x0 1) 1431655765)) 858993459) + (z_and (z_ushr (x0 - (z_and (z_ushr x0 1) 1431655765)) 2) 858993459)) 4)) 252645135) + (z_ushr (z_and (((z_and (x0 - (z_and (z_ushr x0 1) 1431655765)) 858993459) + (z_and (z_ushr (x0 - (z_and (z_ushr x0 1) 1431655765)) 2) 858993459)) + (z_ushr ((z_and (x0 - (z_and (z_ushr x0 1) 1431655765)) 858993459) + (z_and (z_ushr (x0 - (z_and (z_ushr x0 1) 1431655765)) 2) 858993459)) 4)) 252645135) 8)) 16)))]) rfl ?_
  refine z_iload_n C dJ6_bitCount_0f7a4_48 0 rfl ?_
  refine z_bipush C dJ6_bitCount_0f7a4_49 (by decide) ?_
  refine z_iand C dJ6_bitCount_0f7a4_51 ?_
  cases hm
  exact z_iret C E dJ6_bitCount_0f7a4_52 ⟨rfl, rfl, (z_n_and _ _), trivial⟩
set_option maxRecDepth 100000 in
theorem k_X5_power (l : Launch) (G : z_G) (N : Nat) (x0 : Int) (x1 : Int) (h_x0 : z_n x0) (h_x1 : z_n x1) (rr : Int) (hm : m_X5_power N x0 x1 = some (rr)) : z_M l G yX5_power cX5_power 4 (some .int) (k2_rm 0 0) [z_i x0, z_i x1] ([]) 0 0 (fun v w => v = some (z_i rr) ∧ w = [] ∧ z_n rr ∧ True) := by
  unfold m_X5_power at hm
  refine z_M.intro (by decide +kernel) (Nat.le_of_ble_eq_true rfl) (L := [(0, z_i x0), (1, z_i x1)]) rfl (fun X C E => ?_)
  refine z_iconst C dX5_power_0 ?_
  refine z_istore_n C dX5_power_1 (by decide) (L' := [(2, z_i 1), (0, z_i x0), (1, z_i x1)]) rfl ?_
  refine z_iconst C dX5_power_2 ?_
  refine z_istore_n C dX5_power_3 (by decide) (L' := [(3, z_i 0), (2, z_i 1), (0, z_i x0), (1, z_i x1)]) rfl ?_
  obtain ⟨o2_1, hl, hm⟩ := z_b1s hm
  have JX1 : z_n o2_1 → z_J X 0 0 ([]) [(2, z_i o2_1)] 19 [] := by
    intro h_o2_1
    clear hl
    refine z_iload_n C dX5_power_19 0 rfl ?_
    cases hm
    exact z_iret C E dX5_power_20 ⟨rfl, rfl, h_o2_1, trivial⟩
  clear hm
  have L1 : ∀ (n1 : Nat) (v2_1 : Int) (v3_1 : Int), z_n v2_1 → z_n v3_1 → m_X5_power_l1 N x1 x0 n1 v2_1 v3_1 = some (o2_1) → z_J X 0 0 ([]) [(0, z_i x0), (1, z_i x1), (2, z_i v2_1), (3, z_i v3_1)] 4 [] := by
    clear hl
    intro n1
    induction n1 with
    | zero =>
      intro v2_1 v3_1 h_v2_1 h_v3_1 hm
      rw [m_X5_power_l1] at hm
      cases hm
    | succ n1 ih1 =>
      intro v2_1 v3_1 h_v2_1 h_v3_1 hm
      rw [m_X5_power_l1] at hm
      refine z_iload_n C dX5_power_4 3 rfl ?_
      refine z_iload_n C dX5_power_5 1 rfl ?_
      refine z_icmp_ge (tgt := 19) C h_v3_1 h_x1 dX5_power_6 (by decide) (fun c1 => ?_) (fun c1 => ?_)
      · have hm := z_pos c1 hm
        refine z_sub (L' := [(2, z_i v2_1)]) [2] rfl ?_
        cases hm
        exact JX1 h_v2_1
      · have hm := z_neg c1 hm
        refine z_iload_n C dX5_power_9 2 rfl ?_
        refine z_iload_n C dX5_power_10 0 rfl ?_
        obtain ⟨c2, hm⟩ := z_chk_some hm
        refine z_imul C dX5_power_11 ?_
        refine z_istore_n C dX5_power_12 (by decide) (L' := [(2, z_i (v2_1 * x0)), (0, z_i x0), (1, z_i x1), (3, z_i v3_1)]) rfl ?_
        obtain ⟨c3, hm⟩ := z_chk_some hm
        refine z_iinc C dX5_power_13 3 rfl (by decide) (L' := [(3, z_i (v3_1 + 1)), (2, z_i (v2_1 * x0)), (0, z_i x0), (1, z_i x1)]) rfl ?_
        refine z_goto (tgt := 4) C dX5_power_16 (by decide) ?_
        refine z_sub (L' := [(0, z_i x0), (1, z_i x1), (2, z_i (v2_1 * x0)), (3, z_i (v3_1 + 1))]) [2, 3, 1, 0] rfl ?_
        exact ih1 (v2_1 * x0) (v3_1 + 1) c2 c3 hm
  refine z_sub (L' := [(0, z_i x0), (1, z_i x1), (2, z_i 1), (3, z_i 0)]) [2, 3, 1, 0] rfl ?_
  exact L1 N 1 0 (z_k 1 rfl) (z_k 0 rfl) hl
set_option maxRecDepth 100000 in
theorem k_X5_sun (l : Launch) (G : z_G) (N : Nat) (m_o tx_o gr_o nw_o og_o la_o ss_o un_o kp_o m_AringCell m_AringDrops gr_Akind gr_Abeside gr_AbesideBits nw_Aheight nw_Adrops la_Aheight la_Adrops : Nat) (m_ringCell : (Int → Int)) (m_ringDrops : (Int → Int)) (m_rings : Int) (gr_rows : Int) (gr_columns : Int) (gr_cells : Int) (gr_kind : (Int → Int)) (gr_beside : (Int → Int)) (gr_besideBits : (Int → Int64)) (nw_height : (Int → Int)) (nw_drops : (Int → Int)) (nw_hours : Int) (nw_restless : Int64) (la_height : (Int → Int)) (la_drops : (Int → Int)) (la_hours : Int) (la_restless : Int64) (x1 : Int) (x2 : Int) (x3 : Int) (x4 : Int) (h_m_ringCell : z_r m_ringCell) (h_m_ringDrops : z_r m_ringDrops) (h_m_rings : z_n m_rings) (h_gr_rows : z_n gr_rows) (h_gr_columns : z_n gr_columns) (h_gr_cells : z_n gr_cells) (h_gr_kind : z_r gr_kind) (h_gr_beside : z_r gr_beside) (h_nw_height : z_r nw_height) (h_nw_drops : z_r nw_drops) (h_nw_hours : z_n nw_hours) (h_la_height : z_r la_height) (h_la_drops : z_r la_drops) (h_la_hours : z_n la_hours) (h_x1 : z_n x1) (h_x2 : z_n x2) (h_x3 : z_n x3) (h_x4 : z_n x4) (rr : Int) (q_la_height : (Int → Int)) (q_la_drops : (Int → Int)) (q_la_hours : Int) (q_la_restless : Int64) (hm : m_X5_sun N gr_cells gr_kind gr_beside gr_besideBits nw_height nw_drops nw_hours la_height la_drops la_hours la_restless x1 x2 x3 x4 = some (rr, q_la_height, q_la_drops, q_la_hours, q_la_restless)) : z_M l G yX5_sun cX5_sun 9 (some .int) (k2_rm 7 157) [.ref m_o, z_i x1, z_i x2, z_i x3, z_i x4] ([(m_o, z_o 5 [.ref tx_o, .ref gr_o, .ref nw_o, .ref og_o, .ref la_o, .ref ss_o, .ref un_o, .ref kp_o, .ref m_AringCell, .ref m_AringDrops, z_i m_rings]), (m_AringCell, z_a G.2.1 6 m_ringCell), (m_AringDrops, z_a G.2.1 6 m_ringDrops), (gr_o, z_o 0 [z_i gr_rows, z_i gr_columns, z_i gr_cells, .ref gr_Akind, .ref gr_Abeside, .ref gr_AbesideBits]), (gr_Akind, z_a G.2.1 36 gr_kind), (gr_Abeside, z_a G.2.1 144 gr_beside), (gr_AbesideBits, z_l G.2.2.1 36 gr_besideBits), (nw_o, z_o 4 [.ref nw_Aheight, .ref nw_Adrops, z_i nw_hours, .long nw_restless]), (nw_Aheight, z_a G.2.1 36 nw_height), (nw_Adrops, z_a G.2.1 36 nw_drops), (la_o, z_o 4 [.ref la_Aheight, .ref la_Adrops, z_i la_hours, .long la_restless]), (la_Aheight, z_a G.2.1 36 la_height), (la_Adrops, z_a G.2.1 36 la_drops)]) 0 0 (fun v w => v = some (z_i rr) ∧ w = [(m_o, z_o 5 [.ref tx_o, .ref gr_o, .ref nw_o, .ref og_o, .ref la_o, .ref ss_o, .ref un_o, .ref kp_o, .ref m_AringCell, .ref m_AringDrops, z_i m_rings]), (m_AringCell, z_a G.2.1 6 m_ringCell), (m_AringDrops, z_a G.2.1 6 m_ringDrops), (gr_o, z_o 0 [z_i gr_rows, z_i gr_columns, z_i gr_cells, .ref gr_Akind, .ref gr_Abeside, .ref gr_AbesideBits]), (gr_Akind, z_a G.2.1 36 gr_kind), (gr_Abeside, z_a G.2.1 144 gr_beside), (gr_AbesideBits, z_l G.2.2.1 36 gr_besideBits), (nw_o, z_o 4 [.ref nw_Aheight, .ref nw_Adrops, z_i nw_hours, .long nw_restless]), (nw_Aheight, z_a G.2.1 36 nw_height), (nw_Adrops, z_a G.2.1 36 nw_drops), (la_o, z_o 4 [.ref la_Aheight, .ref la_Adrops, z_i q_la_hours, .long q_la_restless]), (la_Aheight, z_a G.2.1 36 q_la_height), (la_Adrops, z_a G.2.1 36 q_la_drops)] ∧ z_n rr ∧ z_r q_la_height ∧ z_r q_la_drops ∧ z_n q_la_hours ∧ True) := by
  unfold m_X5_sun at hm
  refine z_M.intro (by decide +kernel) (Nat.le_of_ble_eq_true rfl) (L := [(0, .ref m_o), (1, z_i x1), (2, z_i x2), (3, z_i x3), (4, z_i x4)]) rfl (fun X C E => ?_)
  refine z_aload_n C dX5_sun_0 0 rfl ?_
  refine z_get C zf_X5_19 dX5_sun_1 0 rfl rfl ?_
  refine z_iload_n C dX5_sun_4 1 rfl ?_
  obtain ⟨r1, k2, hm⟩ := z_b1s hm
  refine z_callVi C (k_X0_holds l G N gr_o gr_Akind gr_Abeside gr_AbesideBits gr_rows gr_columns gr_cells gr_kind gr_beside gr_besideBits x1 h_gr_rows h_gr_columns h_gr_cells h_gr_kind h_gr_beside h_x1 r1 k2) zv_X0_holds zl_X5_96 dX5_sun_5 [3, 4, 5, 6] rfl rfl rfl (ws' := [(m_o, z_o 5 [.ref tx_o, .ref gr_o, .ref nw_o, .ref og_o, .ref la_o, .ref ss_o, .ref un_o, .ref kp_o, .ref m_AringCell, .ref m_AringDrops, z_i m_rings]), (m_AringCell, z_a G.2.1 6 m_ringCell), (m_AringDrops, z_a G.2.1 6 m_ringDrops), (gr_o, z_o 0 [z_i gr_rows, z_i gr_columns, z_i gr_cells, .ref gr_Akind, .ref gr_Abeside, .ref gr_AbesideBits]), (gr_Akind, z_a G.2.1 36 gr_kind), (gr_Abeside, z_a G.2.1 144 gr_beside), (gr_AbesideBits, z_l G.2.2.1 36 gr_besideBits), (nw_o, z_o 4 [.ref nw_Aheight, .ref nw_Adrops, z_i nw_hours, .long nw_restless]), (nw_Aheight, z_a G.2.1 36 nw_height), (nw_Adrops, z_a G.2.1 36 nw_drops), (la_o, z_o 4 [.ref la_Aheight, .ref la_Adrops, z_i la_hours, .long la_restless]), (la_Aheight, z_a G.2.1 36 la_height), (la_Adrops, z_a G.2.1 36 la_drops)]) rfl 3 rfl rfl rfl [] rfl (Nat.le_of_ble_eq_true rfl) ⟨Nat.le_of_ble_eq_true rfl, Nat.le_of_ble_eq_true rfl⟩ ⟨rfl, rfl⟩ ⟨Nat.zero_le _, Nat.zero_le _⟩ (fun hF => ?_)
  obtain ⟨hb_r1, -⟩ := hF
  refine z_if_eq (tgt := 41) C (z_n01 hb_r1) dX5_sun_8 (by decide) (fun c3 => ?_) (fun c3 => ?_)
  · have hm := z_pos c3 hm
    refine z_iconst C dX5_sun_41 ?_
    cases hm
    exact z_iret C E dX5_sun_42 ⟨rfl, rfl, (z_k (-1) rfl), h_la_height, h_la_drops, h_la_hours, trivial⟩
  · have hm := z_neg c3 hm
    refine z_iload_n C dX5_sun_11 2 rfl ?_
    refine z_iconst C dX5_sun_12 ?_
    refine z_bipush C dX5_sun_13 (by decide) ?_
    obtain ⟨r4, k5, hm⟩ := z_b1s hm
    refine z_callSi C (k_X5_isFrom l G N x2 0 6 h_x2 (z_k 0 rfl) (z_k 6 rfl) r4 k5) zs_X5_isFrom zl_X5_100 dX5_sun_15 [] rfl rfl rfl (ws' := [(m_o, z_o 5 [.ref tx_o, .ref gr_o, .ref nw_o, .ref og_o, .ref la_o, .ref ss_o, .ref un_o, .ref kp_o, .ref m_AringCell, .ref m_AringDrops, z_i m_rings]), (m_AringCell, z_a G.2.1 6 m_ringCell), (m_AringDrops, z_a G.2.1 6 m_ringDrops), (gr_o, z_o 0 [z_i gr_rows, z_i gr_columns, z_i gr_cells, .ref gr_Akind, .ref gr_Abeside, .ref gr_AbesideBits]), (gr_Akind, z_a G.2.1 36 gr_kind), (gr_Abeside, z_a G.2.1 144 gr_beside), (gr_AbesideBits, z_l G.2.2.1 36 gr_besideBits), (nw_o, z_o 4 [.ref nw_Aheight, .ref nw_Adrops, z_i nw_hours, .long nw_restless]), (nw_Aheight, z_a G.2.1 36 nw_height), (nw_Adrops, z_a G.2.1 36 nw_drops), (la_o, z_o 4 [.ref la_Aheight, .ref la_Adrops, z_i la_hours, .long la_restless]), (la_Aheight, z_a G.2.1 36 la_height), (la_Adrops, z_a G.2.1 36 la_drops)]) rfl rfl [] rfl (Nat.le_of_ble_eq_true rfl) ⟨Nat.le_of_ble_eq_true rfl, Nat.le_of_ble_eq_true rfl⟩ ⟨rfl, rfl⟩ ⟨Nat.zero_le _, Nat.zero_le _⟩ (fun hF => ?_)
    obtain ⟨hb_r4, -⟩ := hF
    refine z_if_eq (tgt := 41) C (z_n01 hb_r4) dX5_sun_18 (by decide) (fun c6 => ?_) (fun c6 => ?_)
    · have hm := z_pos c6 hm
      refine z_iconst C dX5_sun_41 ?_
      cases hm
      exact z_iret C E dX5_sun_42 ⟨rfl, rfl, (z_k (-1) rfl), h_la_height, h_la_drops, h_la_hours, trivial⟩
    · have hm := z_neg c6 hm
      refine z_iload_n C dX5_sun_21 3 rfl ?_
      refine z_iconst C dX5_sun_22 ?_
      refine z_bipush C dX5_sun_23 (by decide) ?_
      obtain ⟨r7, k8, hm⟩ := z_b1s hm
      refine z_callSi C (k_X5_isFrom l G N x3 0 10 h_x3 (z_k 0 rfl) (z_k 10 rfl) r7 k8) zs_X5_isFrom zl_X5_100 dX5_sun_25 [] rfl rfl rfl (ws' := [(m_o, z_o 5 [.ref tx_o, .ref gr_o, .ref nw_o, .ref og_o, .ref la_o, .ref ss_o, .ref un_o, .ref kp_o, .ref m_AringCell, .ref m_AringDrops, z_i m_rings]), (m_AringCell, z_a G.2.1 6 m_ringCell), (m_AringDrops, z_a G.2.1 6 m_ringDrops), (gr_o, z_o 0 [z_i gr_rows, z_i gr_columns, z_i gr_cells, .ref gr_Akind, .ref gr_Abeside, .ref gr_AbesideBits]), (gr_Akind, z_a G.2.1 36 gr_kind), (gr_Abeside, z_a G.2.1 144 gr_beside), (gr_AbesideBits, z_l G.2.2.1 36 gr_besideBits), (nw_o, z_o 4 [.ref nw_Aheight, .ref nw_Adrops, z_i nw_hours, .long nw_restless]), (nw_Aheight, z_a G.2.1 36 nw_height), (nw_Adrops, z_a G.2.1 36 nw_drops), (la_o, z_o 4 [.ref la_Aheight, .ref la_Adrops, z_i la_hours, .long la_restless]), (la_Aheight, z_a G.2.1 36 la_height), (la_Adrops, z_a G.2.1 36 la_drops)]) rfl rfl [] rfl (Nat.le_of_ble_eq_true rfl) ⟨Nat.le_of_ble_eq_true rfl, Nat.le_of_ble_eq_true rfl⟩ ⟨rfl, rfl⟩ ⟨Nat.zero_le _, Nat.zero_le _⟩ (fun hF => ?_)
      obtain ⟨hb_r7, -⟩ := hF
      refine z_if_eq (tgt := 41) C (z_n01 hb_r7) dX5_sun_28 (by decide) (fun c9 => ?_) (fun c9 => ?_)
      · have hm := z_pos c9 hm
        refine z_iconst C dX5_sun_41 ?_
        cases hm
        exact z_iret C E dX5_sun_42 ⟨rfl, rfl, (z_k (-1) rfl), h_la_height, h_la_drops, h_la_hours, trivial⟩
      · have hm := z_neg c9 hm
        refine z_iload C dX5_sun_31 4 rfl ?_
        refine z_iconst C dX5_sun_33 ?_
        refine z_iconst C dX5_sun_34 ?_
        obtain ⟨r10, k11, hm⟩ := z_b1s hm
        refine z_callSi C (k_X5_isFrom l G N x4 0 1 h_x4 (z_k 0 rfl) (z_k 1 rfl) r10 k11) zs_X5_isFrom zl_X5_100 dX5_sun_35 [] rfl rfl rfl (ws' := [(m_o, z_o 5 [.ref tx_o, .ref gr_o, .ref nw_o, .ref og_o, .ref la_o, .ref ss_o, .ref un_o, .ref kp_o, .ref m_AringCell, .ref m_AringDrops, z_i m_rings]), (m_AringCell, z_a G.2.1 6 m_ringCell), (m_AringDrops, z_a G.2.1 6 m_ringDrops), (gr_o, z_o 0 [z_i gr_rows, z_i gr_columns, z_i gr_cells, .ref gr_Akind, .ref gr_Abeside, .ref gr_AbesideBits]), (gr_Akind, z_a G.2.1 36 gr_kind), (gr_Abeside, z_a G.2.1 144 gr_beside), (gr_AbesideBits, z_l G.2.2.1 36 gr_besideBits), (nw_o, z_o 4 [.ref nw_Aheight, .ref nw_Adrops, z_i nw_hours, .long nw_restless]), (nw_Aheight, z_a G.2.1 36 nw_height), (nw_Adrops, z_a G.2.1 36 nw_drops), (la_o, z_o 4 [.ref la_Aheight, .ref la_Adrops, z_i la_hours, .long la_restless]), (la_Aheight, z_a G.2.1 36 la_height), (la_Adrops, z_a G.2.1 36 la_drops)]) rfl rfl [] rfl (Nat.le_of_ble_eq_true rfl) ⟨Nat.le_of_ble_eq_true rfl, Nat.le_of_ble_eq_true rfl⟩ ⟨rfl, rfl⟩ ⟨Nat.zero_le _, Nat.zero_le _⟩ (fun hF => ?_)
        obtain ⟨hb_r10, -⟩ := hF
        refine z_if_ne (tgt := 43) C (z_n01 hb_r10) dX5_sun_38 (by decide) (fun c12 => ?_) (fun c12 => ?_)
        · have hm := z_pos c12 hm
          refine z_aload_n C dX5_sun_43 0 rfl ?_
          refine z_iload_n C dX5_sun_44 1 rfl ?_
          refine z_iload_n C dX5_sun_45 2 rfl ?_
          obtain ⟨r13, la_height_14, la_drops_15, la_hours_16, la_restless_17, k18, hm⟩ := z_b5s hm
          refine z_callVid C (k_X5_wetBehindHours l G N m_o tx_o gr_o nw_o og_o la_o ss_o un_o kp_o m_AringCell m_AringDrops gr_Akind gr_Abeside gr_AbesideBits nw_Aheight nw_Adrops la_Aheight la_Adrops m_ringCell m_ringDrops m_rings gr_rows gr_columns gr_cells gr_kind gr_beside gr_besideBits nw_height nw_drops nw_hours nw_restless la_height la_drops la_hours la_restless x1 x2 h_m_ringCell h_m_ringDrops h_m_rings h_gr_rows h_gr_columns h_gr_cells h_gr_kind h_gr_beside h_nw_height h_nw_drops h_nw_hours h_la_height h_la_drops h_la_hours h_x1 h_x2 r13 la_height_14 la_drops_15 la_hours_16 la_restless_17 k18) zv_X5_wetBehindHours zl_X5_210 dX5_sun_46 rfl 0 rfl rfl rfl [] rfl (Nat.le_of_ble_eq_true rfl) ⟨Nat.le_of_ble_eq_true rfl, Nat.le_of_ble_eq_true rfl⟩ ⟨rfl, rfl⟩ ⟨Nat.zero_le _, Nat.zero_le _⟩ (fun hF => ?_)
          obtain ⟨h_r13, h_la_height_14, h_la_drops_15, h_la_hours_16, -⟩ := hF
          refine z_istore C dX5_sun_49 (by decide) (L' := [(5, z_i r13), (0, .ref m_o), (1, z_i x1), (2, z_i x2), (3, z_i x3), (4, z_i x4)]) rfl ?_
          refine z_iconst C dX5_sun_51 ?_
          refine z_istore C dX5_sun_52 (by decide) (L' := [(6, z_i 0), (5, z_i r13), (0, .ref m_o), (1, z_i x1), (2, z_i x2), (3, z_i x3), (4, z_i x4)]) rfl ?_
          refine z_iconst C dX5_sun_54 ?_
          refine z_istore C dX5_sun_55 (by decide) (L' := [(7, z_i 0), (6, z_i 0), (5, z_i r13), (0, .ref m_o), (1, z_i x1), (2, z_i x2), (3, z_i x3), (4, z_i x4)]) rfl ?_
          obtain ⟨o6_1, hl, hm⟩ := z_b1s hm
          have JX1 : z_n o6_1 → z_J X 0 0 ([(m_o, z_o 5 [.ref tx_o, .ref gr_o, .ref nw_o, .ref og_o, .ref la_o, .ref ss_o, .ref un_o, .ref kp_o, .ref m_AringCell, .ref m_AringDrops, z_i m_rings]), (m_AringCell, z_a G.2.1 6 m_ringCell), (m_AringDrops, z_a G.2.1 6 m_ringDrops), (gr_o, z_o 0 [z_i gr_rows, z_i gr_columns, z_i gr_cells, .ref gr_Akind, .ref gr_Abeside, .ref gr_AbesideBits]), (gr_Akind, z_a G.2.1 36 gr_kind), (gr_Abeside, z_a G.2.1 144 gr_beside), (gr_AbesideBits, z_l G.2.2.1 36 gr_besideBits), (nw_o, z_o 4 [.ref nw_Aheight, .ref nw_Adrops, z_i nw_hours, .long nw_restless]), (nw_Aheight, z_a G.2.1 36 nw_height), (nw_Adrops, z_a G.2.1 36 nw_drops), (la_o, z_o 4 [.ref la_Aheight, .ref la_Adrops, z_i la_hours_16, .long la_restless_17]), (la_Aheight, z_a G.2.1 36 la_height_14), (la_Adrops, z_a G.2.1 36 la_drops_15)]) [(2, z_i x2), (4, z_i x4), (6, z_i o6_1)] 112 [] := by
            intro h_o6_1
            clear hl
            refine z_iload C dX5_sun_112 2 rfl ?_
            refine z_bipush C dX5_sun_114 (by decide) ?_
            refine z_iload_n C dX5_sun_116 0 rfl ?_
            obtain ⟨r33, k34, hm⟩ := z_b1s hm
            refine z_callSi C (k_X5_power l G N 10 x2 (z_k 10 rfl) h_x2 r33 k34) zs_X5_power zl_X5_219 dX5_sun_117 [] rfl rfl rfl (ws' := [(m_o, z_o 5 [.ref tx_o, .ref gr_o, .ref nw_o, .ref og_o, .ref la_o, .ref ss_o, .ref un_o, .ref kp_o, .ref m_AringCell, .ref m_AringDrops, z_i m_rings]), (m_AringCell, z_a G.2.1 6 m_ringCell), (m_AringDrops, z_a G.2.1 6 m_ringDrops), (gr_o, z_o 0 [z_i gr_rows, z_i gr_columns, z_i gr_cells, .ref gr_Akind, .ref gr_Abeside, .ref gr_AbesideBits]), (gr_Akind, z_a G.2.1 36 gr_kind), (gr_Abeside, z_a G.2.1 144 gr_beside), (gr_AbesideBits, z_l G.2.2.1 36 gr_besideBits), (nw_o, z_o 4 [.ref nw_Aheight, .ref nw_Adrops, z_i nw_hours, .long nw_restless]), (nw_Aheight, z_a G.2.1 36 nw_height), (nw_Adrops, z_a G.2.1 36 nw_drops), (la_o, z_o 4 [.ref la_Aheight, .ref la_Adrops, z_i la_hours_16, .long la_restless_17]), (la_Aheight, z_a G.2.1 36 la_height_14), (la_Adrops, z_a G.2.1 36 la_drops_15)]) rfl rfl [z_i o6_1] rfl (Nat.le_of_ble_eq_true rfl) ⟨Nat.le_of_ble_eq_true rfl, Nat.le_of_ble_eq_true rfl⟩ ⟨rfl, rfl⟩ ⟨Nat.zero_le _, Nat.zero_le _⟩ (fun hF => ?_)
            obtain ⟨h_r33, -⟩ := hF
            refine z_iload C dX5_sun_120 1 rfl ?_
            obtain ⟨r35, k36, hm⟩ := z_b1s hm
            refine z_callSi C (k_X5_lowestTerms l G N o6_1 r33 x4 h_o6_1 h_r33 h_x4 r35 k36) zs_X5_lowestTerms zl_X5_206 dX5_sun_122 [] rfl rfl rfl (ws' := [(m_o, z_o 5 [.ref tx_o, .ref gr_o, .ref nw_o, .ref og_o, .ref la_o, .ref ss_o, .ref un_o, .ref kp_o, .ref m_AringCell, .ref m_AringDrops, z_i m_rings]), (m_AringCell, z_a G.2.1 6 m_ringCell), (m_AringDrops, z_a G.2.1 6 m_ringDrops), (gr_o, z_o 0 [z_i gr_rows, z_i gr_columns, z_i gr_cells, .ref gr_Akind, .ref gr_Abeside, .ref gr_AbesideBits]), (gr_Akind, z_a G.2.1 36 gr_kind), (gr_Abeside, z_a G.2.1 144 gr_beside), (gr_AbesideBits, z_l G.2.2.1 36 gr_besideBits), (nw_o, z_o 4 [.ref nw_Aheight, .ref nw_Adrops, z_i nw_hours, .long nw_restless]), (nw_Aheight, z_a G.2.1 36 nw_height), (nw_Adrops, z_a G.2.1 36 nw_drops), (la_o, z_o 4 [.ref la_Aheight, .ref la_Adrops, z_i la_hours_16, .long la_restless_17]), (la_Aheight, z_a G.2.1 36 la_height_14), (la_Adrops, z_a G.2.1 36 la_drops_15)]) rfl rfl [] rfl (Nat.le_of_ble_eq_true rfl) ⟨Nat.le_of_ble_eq_true rfl, Nat.le_of_ble_eq_true rfl⟩ ⟨rfl, rfl⟩ ⟨Nat.zero_le _, Nat.zero_le _⟩ (fun hF => ?_)
            obtain ⟨h_r35, -⟩ := hF
            cases hm
            exact z_iret C E dX5_sun_125 ⟨rfl, rfl, h_r35, h_la_height_14, h_la_drops_15, h_la_hours_16, trivial⟩
          clear hm
          have L1 : ∀ (n1 : Nat) (v6_1 : Int) (v7_1 : Int), z_n v6_1 → z_n v7_1 → m_X5_sun_l1 N x2 r13 x3 n1 v6_1 v7_1 = some (o6_1) → z_J X 0 0 ([(m_o, z_o 5 [.ref tx_o, .ref gr_o, .ref nw_o, .ref og_o, .ref la_o, .ref ss_o, .ref un_o, .ref kp_o, .ref m_AringCell, .ref m_AringDrops, z_i m_rings]), (m_AringCell, z_a G.2.1 6 m_ringCell), (m_AringDrops, z_a G.2.1 6 m_ringDrops), (gr_o, z_o 0 [z_i gr_rows, z_i gr_columns, z_i gr_cells, .ref gr_Akind, .ref gr_Abeside, .ref gr_AbesideBits]), (gr_Akind, z_a G.2.1 36 gr_kind), (gr_Abeside, z_a G.2.1 144 gr_beside), (gr_AbesideBits, z_l G.2.2.1 36 gr_besideBits), (nw_o, z_o 4 [.ref nw_Aheight, .ref nw_Adrops, z_i nw_hours, .long nw_restless]), (nw_Aheight, z_a G.2.1 36 nw_height), (nw_Adrops, z_a G.2.1 36 nw_drops), (la_o, z_o 4 [.ref la_Aheight, .ref la_Adrops, z_i la_hours_16, .long la_restless_17]), (la_Aheight, z_a G.2.1 36 la_height_14), (la_Adrops, z_a G.2.1 36 la_drops_15)]) [(2, z_i x2), (3, z_i x3), (4, z_i x4), (5, z_i r13), (6, z_i v6_1), (7, z_i v7_1)] 57 [] := by
            clear hl
            intro n1
            induction n1 with
            | zero =>
              intro v6_1 v7_1 h_v6_1 h_v7_1 hm
              rw [m_X5_sun_l1] at hm
              cases hm
            | succ n1 ih1 =>
              intro v6_1 v7_1 h_v6_1 h_v7_1 hm
              rw [m_X5_sun_l1] at hm
              refine z_iload C dX5_sun_57 5 rfl ?_
              refine z_iconst C dX5_sun_59 ?_
              refine z_iload_n C dX5_sun_60 0 rfl ?_
              refine z_ishl C dX5_sun_61 ?_
              refine z_icmp_ge (tgt := 112) C h_v7_1 (z_n_shl _ _) dX5_sun_62 (by decide) (fun c19 => ?_) (fun c19 => ?_)
              · have hm := z_pos c19 hm
                refine z_sub (L' := [(2, z_i x2), (4, z_i x4), (6, z_i v6_1)]) [0, 2, 4] rfl ?_
                cases hm
                exact JX1 h_v6_1
              · have hm := z_neg c19 hm
                refine z_iload C dX5_sun_65 5 rfl ?_
                obtain ⟨r20, k21, hm⟩ := z_b1s hm
                refine z_callSi C (k_J6_bitCount_0f7a4 l G N v7_1 h_v7_1 r20 k21) zs_J6_bitCount_0f7a4 zl_X5_214 dX5_sun_67 [] rfl rfl rfl (ws' := [(m_o, z_o 5 [.ref tx_o, .ref gr_o, .ref nw_o, .ref og_o, .ref la_o, .ref ss_o, .ref un_o, .ref kp_o, .ref m_AringCell, .ref m_AringDrops, z_i m_rings]), (m_AringCell, z_a G.2.1 6 m_ringCell), (m_AringDrops, z_a G.2.1 6 m_ringDrops), (gr_o, z_o 0 [z_i gr_rows, z_i gr_columns, z_i gr_cells, .ref gr_Akind, .ref gr_Abeside, .ref gr_AbesideBits]), (gr_Akind, z_a G.2.1 36 gr_kind), (gr_Abeside, z_a G.2.1 144 gr_beside), (gr_AbesideBits, z_l G.2.2.1 36 gr_besideBits), (nw_o, z_o 4 [.ref nw_Aheight, .ref nw_Adrops, z_i nw_hours, .long nw_restless]), (nw_Aheight, z_a G.2.1 36 nw_height), (nw_Adrops, z_a G.2.1 36 nw_drops), (la_o, z_o 4 [.ref la_Aheight, .ref la_Adrops, z_i la_hours_16, .long la_restless_17]), (la_Aheight, z_a G.2.1 36 la_height_14), (la_Adrops, z_a G.2.1 36 la_drops_15)]) rfl rfl [] rfl (Nat.le_of_ble_eq_true rfl) ⟨Nat.le_of_ble_eq_true rfl, Nat.le_of_ble_eq_true rfl⟩ ⟨rfl, rfl⟩ ⟨Nat.zero_le _, Nat.zero_le _⟩ (fun hF => ?_)
                obtain ⟨h_r20, -⟩ := hF
                refine z_istore C dX5_sun_70 (by decide) (L' := [(8, z_i r20), (2, z_i x2), (3, z_i x3), (4, z_i x4), (5, z_i r13), (6, z_i v6_1), (7, z_i v7_1)]) rfl ?_
                refine z_iload C dX5_sun_72 4 rfl ?_
                refine z_iload C dX5_sun_74 0 rfl ?_
                refine z_ishr C dX5_sun_76 ?_
                refine z_iconst C dX5_sun_77 ?_
                refine z_iand C dX5_sun_78 ?_
                refine z_iconst C dX5_sun_79 ?_
                refine z_icmp_ne (tgt := 106) C (z_n_and _ _) (z_k 1 rfl) dX5_sun_80 (by decide) (fun c22 => ?_) (fun c22 => ?_)
                · have hm := z_pos c22 hm
                  obtain ⟨c23, hm⟩ := z_chk_some hm
                  refine z_iinc C dX5_sun_106 6 rfl (by decide) (L' := [(7, z_i (v7_1 + 1)), (8, z_i r20), (2, z_i x2), (3, z_i x3), (4, z_i x4), (5, z_i r13), (6, z_i v6_1)]) rfl ?_
                  refine z_goto (tgt := 57) C dX5_sun_109 (by decide) ?_
                  refine z_sub (L' := [(2, z_i x2), (3, z_i x3), (4, z_i x4), (5, z_i r13), (6, z_i v6_1), (7, z_i (v7_1 + 1))]) [2, 3, 4, 5, 6, 0] rfl ?_
                  exact ih1 v6_1 (v7_1 + 1) h_v6_1 c23 hm
                · have hm := z_neg c22 hm
                  refine z_iload C dX5_sun_83 5 rfl ?_
                  refine z_iload_n C dX5_sun_85 2 rfl ?_
                  refine z_iload C dX5_sun_86 0 rfl ?_
                  obtain ⟨r24, k25, hm⟩ := z_b1s hm
                  refine z_callSi C (k_X5_power l G N x3 r20 h_x3 h_r20 r24 k25) zs_X5_power zl_X5_219 dX5_sun_88 [] rfl rfl rfl (ws' := [(m_o, z_o 5 [.ref tx_o, .ref gr_o, .ref nw_o, .ref og_o, .ref la_o, .ref ss_o, .ref un_o, .ref kp_o, .ref m_AringCell, .ref m_AringDrops, z_i m_rings]), (m_AringCell, z_a G.2.1 6 m_ringCell), (m_AringDrops, z_a G.2.1 6 m_ringDrops), (gr_o, z_o 0 [z_i gr_rows, z_i gr_columns, z_i gr_cells, .ref gr_Akind, .ref gr_Abeside, .ref gr_AbesideBits]), (gr_Akind, z_a G.2.1 36 gr_kind), (gr_Abeside, z_a G.2.1 144 gr_beside), (gr_AbesideBits, z_l G.2.2.1 36 gr_besideBits), (nw_o, z_o 4 [.ref nw_Aheight, .ref nw_Adrops, z_i nw_hours, .long nw_restless]), (nw_Aheight, z_a G.2.1 36 nw_height), (nw_Adrops, z_a G.2.1 36 nw_drops), (la_o, z_o 4 [.ref la_Aheight, .ref la_Adrops, z_i la_hours_16, .long la_restless_17]), (la_Aheight, z_a G.2.1 36 la_height_14), (la_Adrops, z_a G.2.1 36 la_drops_15)]) rfl rfl [z_i v6_1] rfl (Nat.le_of_ble_eq_true rfl) ⟨Nat.le_of_ble_eq_true rfl, Nat.le_of_ble_eq_true rfl⟩ ⟨rfl, rfl⟩ ⟨Nat.zero_le _, Nat.zero_le _⟩ (fun hF => ?_)
                  obtain ⟨h_r24, -⟩ := hF
                  refine z_bipush C dX5_sun_91 (by decide) ?_
                  refine z_iload_n C dX5_sun_93 2 rfl ?_
                  obtain ⟨c26, hm⟩ := z_chk_some hm
                  refine z_isub C dX5_sun_94 ?_
                  refine z_iload_n C dX5_sun_95 1 rfl ?_
                  refine z_iload C dX5_sun_96 0 rfl ?_
                  obtain ⟨c27, hm⟩ := z_chk_some hm
                  refine z_isub C dX5_sun_98 ?_
                  obtain ⟨r28, k29, hm⟩ := z_b1s hm
                  refine z_callSi C (k_X5_power l G N (10 - x3) (x2 - r20) c26 c27 r28 k29) zs_X5_power zl_X5_219 dX5_sun_99 [] rfl rfl rfl (ws' := [(m_o, z_o 5 [.ref tx_o, .ref gr_o, .ref nw_o, .ref og_o, .ref la_o, .ref ss_o, .ref un_o, .ref kp_o, .ref m_AringCell, .ref m_AringDrops, z_i m_rings]), (m_AringCell, z_a G.2.1 6 m_ringCell), (m_AringDrops, z_a G.2.1 6 m_ringDrops), (gr_o, z_o 0 [z_i gr_rows, z_i gr_columns, z_i gr_cells, .ref gr_Akind, .ref gr_Abeside, .ref gr_AbesideBits]), (gr_Akind, z_a G.2.1 36 gr_kind), (gr_Abeside, z_a G.2.1 144 gr_beside), (gr_AbesideBits, z_l G.2.2.1 36 gr_besideBits), (nw_o, z_o 4 [.ref nw_Aheight, .ref nw_Adrops, z_i nw_hours, .long nw_restless]), (nw_Aheight, z_a G.2.1 36 nw_height), (nw_Adrops, z_a G.2.1 36 nw_drops), (la_o, z_o 4 [.ref la_Aheight, .ref la_Adrops, z_i la_hours_16, .long la_restless_17]), (la_Aheight, z_a G.2.1 36 la_height_14), (la_Adrops, z_a G.2.1 36 la_drops_15)]) rfl rfl [z_i r24, z_i v6_1] rfl (Nat.le_of_ble_eq_true rfl) ⟨Nat.le_of_ble_eq_true rfl, Nat.le_of_ble_eq_true rfl⟩ ⟨rfl, rfl⟩ ⟨Nat.zero_le _, Nat.zero_le _⟩ (fun hF => ?_)
                  obtain ⟨h_r28, -⟩ := hF
                  obtain ⟨c30, hm⟩ := z_chk_some hm
                  refine z_imul C dX5_sun_102 ?_
                  obtain ⟨c31, hm⟩ := z_chk_some hm
                  refine z_iadd C dX5_sun_103 ?_
                  refine z_istore C dX5_sun_104 (by decide) (L' := [(6, z_i (v6_1 + (r24 * r28))), (8, z_i r20), (2, z_i x2), (3, z_i x3), (4, z_i x4), (5, z_i r13), (7, z_i v7_1)]) rfl ?_
                  obtain ⟨c32, hm⟩ := z_chk_some hm
                  refine z_iinc C dX5_sun_106 6 rfl (by decide) (L' := [(7, z_i (v7_1 + 1)), (6, z_i (v6_1 + (r24 * r28))), (8, z_i r20), (2, z_i x2), (3, z_i x3), (4, z_i x4), (5, z_i r13)]) rfl ?_
                  refine z_goto (tgt := 57) C dX5_sun_109 (by decide) ?_
                  refine z_sub (L' := [(2, z_i x2), (3, z_i x3), (4, z_i x4), (5, z_i r13), (6, z_i (v6_1 + (r24 * r28))), (7, z_i (v7_1 + 1))]) [3, 4, 5, 6, 1, 0] rfl ?_
                  exact ih1 (v6_1 + (r24 * r28)) (v7_1 + 1) c31 c32 hm
          refine z_sub (L' := [(2, z_i x2), (3, z_i x3), (4, z_i x4), (5, z_i r13), (6, z_i 0), (7, z_i 0)]) [5, 6, 7, 2, 1, 0] rfl ?_
          exact L1 N 0 0 (z_k 0 rfl) (z_k 0 rfl) hl
        · have hm := z_neg c12 hm
          refine z_iconst C dX5_sun_41 ?_
          cases hm
          exact z_iret C E dX5_sun_42 ⟨rfl, rfl, (z_k (-1) rfl), h_la_height, h_la_drops, h_la_hours, trivial⟩
set_option maxRecDepth 100000 in
theorem k_X5_drawOf (l : Launch) (G : z_G) (N : Nat) (x0 : Int) (x1 : Int) (h_x0 : z_n x0) (h_x1 : z_n x1) (rr : Int) (hm : m_X5_drawOf N x0 x1 = some (rr)) : z_M l G yX5_drawOf cX5_drawOf 4 (some .int) (k2_rm 0 0) [z_i x0, z_i x1] ([]) 0 0 (fun v w => v = some (z_i rr) ∧ w = [] ∧ z_n rr ∧ True) := by
  unfold m_X5_drawOf at hm
  refine z_M.intro (by decide +kernel) (Nat.le_of_ble_eq_true rfl) (L := [(0, z_i x0), (1, z_i x1)]) rfl (fun X C E => ?_)
  refine z_ldc2 C zc_X5_232 dX5_drawOf_0 ?_
  refine z_iload_n C dX5_drawOf_3 0 rfl ?_
  refine z_i2lR C dX5_drawOf_4 ?_
  refine z_lmul C dX5_drawOf_5 ?_
  refine z_ldc2 C zc_X5_234 dX5_drawOf_6 ?_
  refine z_iload_n C dX5_drawOf_9 1 rfl ?_
  refine z_i2lR C dX5_drawOf_10 ?_
  refine z_lmul C dX5_drawOf_11 ?_
  refine z_ladd C dX5_drawOf_12 ?_
  refine z_lconst (v := (1 : Int64)) C dX5_drawOf_13 (by decide) ?_
  refine z_ladd C dX5_drawOf_14 ?_
  refine z_lstore_n C dX5_drawOf_15 (by decide) (L' := [(2, .long ((((7919 : Int64) * (z_i2l x0)) + ((6151 : Int64) * (z_i2l x1))) + (1 : Int64))), (0, z_i x0), (1, z_i x1)]) rfl ?_
  refine z_lload_n C dX5_drawOf_16 0 rfl ?_
  refine z_lload_n C dX5_drawOf_17 0 rfl ?_
  refine z_lmul C dX5_drawOf_18 ?_
  refine z_ldc2 C zc_X5_236 dX5_drawOf_19 ?_
  refine z_lremR C (by decide) dX5_drawOf_22 ?_
  refine z_ldc2 C zc_X5_238 dX5_drawOf_23 ?_
  refine z_ldivR C (by decide) dX5_drawOf_26 ?_
  refine z_l2iR C dX5_drawOf_27 ?_
  cases hm
  exact z_iret C E dX5_drawOf_28 ⟨rfl, rfl, (z_n_l2i _), trivial⟩
