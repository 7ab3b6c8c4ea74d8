set_option maxRecDepth 100000 in
theorem k_X5_stone (l : Launch) (G : z_G) (N : Nat) (m_o tx_o gr_o nw_o og_o la_o ss_o un_o kp_o m_AringCell m_AringDrops gr_Akind gr_Abeside gr_AbesideBits nw_Aheight nw_Adrops un_Aheights un_Adrops un_Ahours : Nat) (m_ringCell : (Int → Int)) (m_ringDrops : (Int → Int)) (m_rings : Int) (gr_rows : Int) (gr_columns : Int) (gr_cells : Int) (gr_kind : (Int → Int)) (gr_beside : (Int → Int)) (gr_besideBits : (Int → Int64)) (nw_height : (Int → Int)) (nw_drops : (Int → Int)) (nw_hours : Int) (nw_restless : Int64) (un_heights : (Int → Int)) (un_drops : (Int → Int)) (un_hours : (Int → Int)) (un_many : Int) (x1 : Int) (x2 : Int) (h_m_ringCell : z_r m_ringCell) (h_m_ringDrops : z_r m_ringDrops) (h_m_rings : z_n m_rings) (h_gr_rows : z_n gr_rows) (h_gr_columns : z_n gr_columns) (h_gr_cells : z_n gr_cells) (h_gr_kind : z_r gr_kind) (h_gr_beside : z_r gr_beside) (h_nw_height : z_r nw_height) (h_nw_drops : z_r nw_drops) (h_nw_hours : z_n nw_hours) (h_un_heights : z_r un_heights) (h_un_drops : z_r un_drops) (h_un_hours : z_r un_hours) (h_un_many : z_n un_many) (h_x1 : z_n x1) (h_x2 : z_n x2) (rr : Int) (q_nw_height : (Int → Int)) (q_nw_drops : (Int → Int)) (q_nw_restless : Int64) (q_un_heights : (Int → Int)) (q_un_drops : (Int → Int)) (q_un_hours : (Int → Int)) (q_un_many : Int) (hm : m_X5_stone N gr_cells gr_kind gr_beside gr_besideBits nw_height nw_drops nw_hours nw_restless un_heights un_drops un_hours un_many x1 x2 = some (rr, q_nw_height, q_nw_drops, q_nw_restless, q_un_heights, q_un_drops, q_un_hours, q_un_many)) : z_M l G yX5_stone cX5_stone 4 (some .int) (k2_rm 5 110) [.ref m_o, z_i x1, z_i x2] ([(m_o, z_o 5 [.ref tx_o, .ref gr_o, .ref nw_o, .ref og_o, .ref la_o, .ref ss_o, .ref un_o, .ref kp_o, .ref m_AringCell, .ref m_AringDrops, z_i m_rings]), (m_AringCell, z_a G.2.1 6 m_ringCell), (m_AringDrops, z_a G.2.1 6 m_ringDrops), (gr_o, z_o 0 [z_i gr_rows, z_i gr_columns, z_i gr_cells, .ref gr_Akind, .ref gr_Abeside, .ref gr_AbesideBits]), (gr_Akind, z_a G.2.1 36 gr_kind), (gr_Abeside, z_a G.2.1 144 gr_beside), (gr_AbesideBits, z_l G.2.2.1 36 gr_besideBits), (nw_o, z_o 4 [.ref nw_Aheight, .ref nw_Adrops, z_i nw_hours, .long nw_restless]), (nw_Aheight, z_a G.2.1 36 nw_height), (nw_Adrops, z_a G.2.1 36 nw_drops), (un_o, z_o 1 [.ref un_Aheights, .ref un_Adrops, .ref un_Ahours, z_i un_many]), (un_Aheights, z_a G.2.1 288 un_heights), (un_Adrops, z_a G.2.1 288 un_drops), (un_Ahours, z_a G.2.1 8 un_hours)]) 0 0 (fun v w => v = some (z_i rr) ∧ w = [(m_o, z_o 5 [.ref tx_o, .ref gr_o, .ref nw_o, .ref og_o, .ref la_o, .ref ss_o, .ref un_o, .ref kp_o, .ref m_AringCell, .ref m_AringDrops, z_i m_rings]), (m_AringCell, z_a G.2.1 6 m_ringCell), (m_AringDrops, z_a G.2.1 6 m_ringDrops), (gr_o, z_o 0 [z_i gr_rows, z_i gr_columns, z_i gr_cells, .ref gr_Akind, .ref gr_Abeside, .ref gr_AbesideBits]), (gr_Akind, z_a G.2.1 36 gr_kind), (gr_Abeside, z_a G.2.1 144 gr_beside), (gr_AbesideBits, z_l G.2.2.1 36 gr_besideBits), (nw_o, z_o 4 [.ref nw_Aheight, .ref nw_Adrops, z_i nw_hours, .long q_nw_restless]), (nw_Aheight, z_a G.2.1 36 q_nw_height), (nw_Adrops, z_a G.2.1 36 q_nw_drops), (un_o, z_o 1 [.ref un_Aheights, .ref un_Adrops, .ref un_Ahours, z_i q_un_many]), (un_Aheights, z_a G.2.1 288 q_un_heights), (un_Adrops, z_a G.2.1 288 q_un_drops), (un_Ahours, z_a G.2.1 8 q_un_hours)] ∧ z_n rr ∧ z_r q_nw_height ∧ z_r q_nw_drops ∧ z_r q_un_heights ∧ z_r q_un_drops ∧ z_r q_un_hours ∧ z_n q_un_many ∧ True) := by
  unfold m_X5_stone at hm
  refine z_M.intro (by decide +kernel) (Nat.le_of_ble_eq_true rfl) (L := [(0, .ref m_o), (1, z_i x1), (2, z_i x2)]) rfl (fun X C E => ?_)
  refine z_aload_n C dX5_stone_0 0 rfl ?_
  refine z_get C zf_X5_19 dX5_stone_1 0 rfl rfl ?_
  refine z_iload_n C dX5_stone_4 1 rfl ?_
  obtain ⟨r1, k2, hm⟩ := z_b1s hm
  refine z_callVi C (k_X0_holds l G N gr_o gr_Akind gr_Abeside gr_AbesideBits gr_rows gr_columns gr_cells gr_kind gr_beside gr_besideBits x1 h_gr_rows h_gr_columns h_gr_cells h_gr_kind h_gr_beside h_x1 r1 k2) zv_X0_holds zl_X5_96 dX5_stone_5 [3, 4, 5, 6] rfl rfl rfl (ws' := [(m_o, z_o 5 [.ref tx_o, .ref gr_o, .ref nw_o, .ref og_o, .ref la_o, .ref ss_o, .ref un_o, .ref kp_o, .ref m_AringCell, .ref m_AringDrops, z_i m_rings]), (m_AringCell, z_a G.2.1 6 m_ringCell), (m_AringDrops, z_a G.2.1 6 m_ringDrops), (gr_o, z_o 0 [z_i gr_rows, z_i gr_columns, z_i gr_cells, .ref gr_Akind, .ref gr_Abeside, .ref gr_AbesideBits]), (gr_Akind, z_a G.2.1 36 gr_kind), (gr_Abeside, z_a G.2.1 144 gr_beside), (gr_AbesideBits, z_l G.2.2.1 36 gr_besideBits), (nw_o, z_o 4 [.ref nw_Aheight, .ref nw_Adrops, z_i nw_hours, .long nw_restless]), (nw_Aheight, z_a G.2.1 36 nw_height), (nw_Adrops, z_a G.2.1 36 nw_drops), (un_o, z_o 1 [.ref un_Aheights, .ref un_Adrops, .ref un_Ahours, z_i un_many]), (un_Aheights, z_a G.2.1 288 un_heights), (un_Adrops, z_a G.2.1 288 un_drops), (un_Ahours, z_a G.2.1 8 un_hours)]) rfl 3 rfl rfl rfl [] rfl (Nat.le_of_ble_eq_true rfl) ⟨Nat.le_of_ble_eq_true rfl, Nat.le_of_ble_eq_true rfl⟩ ⟨rfl, rfl⟩ ⟨Nat.zero_le _, Nat.zero_le _⟩ (fun hF => ?_)
  obtain ⟨hb_r1, -⟩ := hF
  refine z_if_ne (tgt := 13) C (z_n01 hb_r1) dX5_stone_8 (by decide) (fun c3 => ?_) (fun c3 => ?_)
  · have hm := z_pos c3 hm
    refine z_aload_n C dX5_stone_13 0 rfl ?_
    refine z_get C zf_X5_26 dX5_stone_14 0 rfl rfl ?_
    refine z_get C zf_X5_104 dX5_stone_17 7 rfl rfl ?_
    refine z_iload_n C dX5_stone_20 1 rfl ?_
    obtain ⟨c4, hm⟩ := z_chk_some hm
    refine z_iald C dX5_stone_21 8 rfl c4 h_x1 ?_
    refine z_iload_n C dX5_stone_22 2 rfl ?_
    obtain ⟨s6, hj, hm⟩ := z_b1s hm
    have J7 : z_n s6 → z_J X 0 0 ([(m_o, z_o 5 [.ref tx_o, .ref gr_o, .ref nw_o, .ref og_o, .ref la_o, .ref ss_o, .ref un_o, .ref kp_o, .ref m_AringCell, .ref m_AringDrops, z_i m_rings]), (m_AringCell, z_a G.2.1 6 m_ringCell), (m_AringDrops, z_a G.2.1 6 m_ringDrops), (gr_o, z_o 0 [z_i gr_rows, z_i gr_columns, z_i gr_cells, .ref gr_Akind, .ref gr_Abeside, .ref gr_AbesideBits]), (gr_Akind, z_a G.2.1 36 gr_kind), (gr_Abeside, z_a G.2.1 144 gr_beside), (gr_AbesideBits, z_l G.2.2.1 36 gr_besideBits), (nw_o, z_o 4 [.ref nw_Aheight, .ref nw_Adrops, z_i nw_hours, .long nw_restless]), (nw_Aheight, z_a G.2.1 36 nw_height), (nw_Adrops, z_a G.2.1 36 nw_drops), (un_o, z_o 1 [.ref un_Aheights, .ref un_Adrops, .ref un_Ahours, z_i un_many]), (un_Aheights, z_a G.2.1 288 un_heights), (un_Adrops, z_a G.2.1 288 un_drops), (un_Ahours, z_a G.2.1 8 un_hours)]) [(0, .ref m_o), (1, z_i x1)] 31 [z_i s6, z_i (nw_height x1)] := by
      intro h_s6
      clear hj
      obtain ⟨c8, hm⟩ := z_chk_some hm
      refine z_iadd C dX5_stone_31 ?_
      refine z_istore_n C dX5_stone_32 (by decide) (L' := [(3, z_i ((nw_height x1) + s6)), (0, .ref m_o), (1, z_i x1)]) rfl ?_
      refine z_iload_n C dX5_stone_33 0 rfl ?_
      refine z_iconst C dX5_stone_34 ?_
      refine z_bipush C dX5_stone_35 (by decide) ?_
      obtain ⟨r9, k10, hm⟩ := z_b1s hm
      refine z_callSi C (k_X5_isFrom l G N ((nw_height x1) + s6) 0 20 c8 (z_k 0 rfl) (z_k 20 rfl) r9 k10) zs_X5_isFrom zl_X5_100 dX5_stone_37 [] rfl rfl rfl (ws' := [(m_o, z_o 5 [.ref tx_o, .ref gr_o, .ref nw_o, .ref og_o, .ref la_o, .ref ss_o, .ref un_o, .ref kp_o, .ref m_AringCell, .ref m_AringDrops, z_i m_rings]), (m_AringCell, z_a G.2.1 6 m_ringCell), (m_AringDrops, z_a G.2.1 6 m_ringDrops), (gr_o, z_o 0 [z_i gr_rows, z_i gr_columns, z_i gr_cells, .ref gr_Akind, .ref gr_Abeside, .ref gr_AbesideBits]), (gr_Akind, z_a G.2.1 36 gr_kind), (gr_Abeside, z_a G.2.1 144 gr_beside), (gr_AbesideBits, z_l G.2.2.1 36 gr_besideBits), (nw_o, z_o 4 [.ref nw_Aheight, .ref nw_Adrops, z_i nw_hours, .long nw_restless]), (nw_Aheight, z_a G.2.1 36 nw_height), (nw_Adrops, z_a G.2.1 36 nw_drops), (un_o, z_o 1 [.ref un_Aheights, .ref un_Adrops, .ref un_Ahours, z_i un_many]), (un_Aheights, z_a G.2.1 288 un_heights), (un_Adrops, z_a G.2.1 288 un_drops), (un_Ahours, z_a G.2.1 8 un_hours)]) rfl rfl [] rfl (Nat.le_of_ble_eq_true rfl) ⟨Nat.le_of_ble_eq_true rfl, Nat.le_of_ble_eq_true rfl⟩ ⟨rfl, rfl⟩ ⟨Nat.zero_le _, Nat.zero_le _⟩ (fun hF => ?_)
      obtain ⟨hb_r9, -⟩ := hF
      refine z_if_eq (tgt := 54) C (z_n01 hb_r9) dX5_stone_40 (by decide) (fun c11 => ?_) (fun c11 => ?_)
      · have hm := z_pos c11 hm
        refine z_bipush C dX5_stone_54 (by decide) ?_
        cases hm
        exact z_iret C E dX5_stone_56 ⟨rfl, rfl, (z_k (-2) rfl), h_nw_height, h_nw_drops, h_un_heights, h_un_drops, h_un_hours, h_un_many, trivial⟩
      · have hm := z_neg c11 hm
        refine z_aload_n C dX5_stone_43 1 rfl ?_
        refine z_get C zf_X5_19 dX5_stone_44 0 rfl rfl ?_
        refine z_iload_n C dX5_stone_47 2 rfl ?_
        obtain ⟨r12, k13, hm⟩ := z_b1s hm
        refine z_callVi C (k_X0_takesRain l G N gr_o gr_Akind gr_Abeside gr_AbesideBits gr_rows gr_columns gr_cells gr_kind gr_beside gr_besideBits x1 h_gr_rows h_gr_columns h_gr_cells h_gr_kind h_gr_beside h_x1 r12 k13) zv_X0_takesRain zl_X5_149 dX5_stone_48 [3, 4, 5, 6] rfl rfl rfl (ws' := [(m_o, z_o 5 [.ref tx_o, .ref gr_o, .ref nw_o, .ref og_o, .ref la_o, .ref ss_o, .ref un_o, .ref kp_o, .ref m_AringCell, .ref m_AringDrops, z_i m_rings]), (m_AringCell, z_a G.2.1 6 m_ringCell), (m_AringDrops, z_a G.2.1 6 m_ringDrops), (gr_o, z_o 0 [z_i gr_rows, z_i gr_columns, z_i gr_cells, .ref gr_Akind, .ref gr_Abeside, .ref gr_AbesideBits]), (gr_Akind, z_a G.2.1 36 gr_kind), (gr_Abeside, z_a G.2.1 144 gr_beside), (gr_AbesideBits, z_l G.2.2.1 36 gr_besideBits), (nw_o, z_o 4 [.ref nw_Aheight, .ref nw_Adrops, z_i nw_hours, .long nw_restless]), (nw_Aheight, z_a G.2.1 36 nw_height), (nw_Adrops, z_a G.2.1 36 nw_drops), (un_o, z_o 1 [.ref un_Aheights, .ref un_Adrops, .ref un_Ahours, z_i un_many]), (un_Aheights, z_a G.2.1 288 un_heights), (un_Adrops, z_a G.2.1 288 un_drops), (un_Ahours, z_a G.2.1 8 un_hours)]) rfl 3 rfl rfl rfl [] rfl (Nat.le_of_ble_eq_true rfl) ⟨Nat.le_of_ble_eq_true rfl, Nat.le_of_ble_eq_true rfl⟩ ⟨rfl, rfl⟩ ⟨Nat.zero_le _, Nat.zero_le _⟩ (fun hF => ?_)
        obtain ⟨hb_r12, -⟩ := hF
        refine z_if_ne (tgt := 57) C (z_n01 hb_r12) dX5_stone_51 (by decide) (fun c14 => ?_) (fun c14 => ?_)
        · have hm := z_pos c14 hm
          refine z_aload_n C dX5_stone_57 1 rfl ?_
          refine z_get C zf_X5_46 dX5_stone_58 0 rfl rfl ?_
          refine z_aload_n C dX5_stone_61 1 rfl ?_
          refine z_get C zf_X5_26 dX5_stone_62 0 rfl rfl ?_
          obtain ⟨un_heights_15, un_drops_16, un_hours_17, un_many_18, k19, hm⟩ := z_b4s hm
          refine z_callVv C (k_X1_push l G N un_o un_Aheights un_Adrops un_Ahours nw_o nw_Aheight nw_Adrops un_heights un_drops un_hours un_many nw_height nw_drops nw_hours nw_restless h_un_heights h_un_drops h_un_hours h_un_many h_nw_height h_nw_drops h_nw_hours un_heights_15 un_drops_16 un_hours_17 un_many_18 k19) zv_X1_push zl_X5_128 dX5_stone_65 [10, 11, 12, 13, 7, 8, 9] rfl rfl rfl (ws' := [(m_o, z_o 5 [.ref tx_o, .ref gr_o, .ref nw_o, .ref og_o, .ref la_o, .ref ss_o, .ref un_o, .ref kp_o, .ref m_AringCell, .ref m_AringDrops, z_i m_rings]), (m_AringCell, z_a G.2.1 6 m_ringCell), (m_AringDrops, z_a G.2.1 6 m_ringDrops), (gr_o, z_o 0 [z_i gr_rows, z_i gr_columns, z_i gr_cells, .ref gr_Akind, .ref gr_Abeside, .ref gr_AbesideBits]), (gr_Akind, z_a G.2.1 36 gr_kind), (gr_Abeside, z_a G.2.1 144 gr_beside), (gr_AbesideBits, z_l G.2.2.1 36 gr_besideBits), (nw_o, z_o 4 [.ref nw_Aheight, .ref nw_Adrops, z_i nw_hours, .long nw_restless]), (nw_Aheight, z_a G.2.1 36 nw_height), (nw_Adrops, z_a G.2.1 36 nw_drops), (un_o, z_o 1 [.ref un_Aheights, .ref un_Adrops, .ref un_Ahours, z_i un_many_18]), (un_Aheights, z_a G.2.1 288 un_heights_15), (un_Adrops, z_a G.2.1 288 un_drops_16), (un_Ahours, z_a G.2.1 8 un_hours_17)]) rfl 10 rfl rfl rfl [] rfl (Nat.le_of_ble_eq_true rfl) ⟨Nat.le_of_ble_eq_true rfl, Nat.le_of_ble_eq_true rfl⟩ ⟨rfl, rfl⟩ ⟨Nat.zero_le _, Nat.zero_le _⟩ (fun hF => ?_)
          obtain ⟨h_un_heights_15, h_un_drops_16, h_un_hours_17, h_un_many_18, -⟩ := hF
          refine z_aload_n C dX5_stone_68 1 rfl ?_
          refine z_get C zf_X5_26 dX5_stone_69 0 rfl rfl ?_
          refine z_get C zf_X5_104 dX5_stone_72 7 rfl rfl ?_
          refine z_iload_n C dX5_stone_75 2 rfl ?_
          refine z_iload_n C dX5_stone_76 0 rfl ?_
          obtain ⟨c20, hm⟩ := z_chk_some hm
          refine z_iast C dX5_stone_77 8 rfl c20 h_x1 (ws' := [(m_o, z_o 5 [.ref tx_o, .ref gr_o, .ref nw_o, .ref og_o, .ref la_o, .ref ss_o, .ref un_o, .ref kp_o, .ref m_AringCell, .ref m_AringDrops, z_i m_rings]), (m_AringCell, z_a G.2.1 6 m_ringCell), (m_AringDrops, z_a G.2.1 6 m_ringDrops), (gr_o, z_o 0 [z_i gr_rows, z_i gr_columns, z_i gr_cells, .ref gr_Akind, .ref gr_Abeside, .ref gr_AbesideBits]), (gr_Akind, z_a G.2.1 36 gr_kind), (gr_Abeside, z_a G.2.1 144 gr_beside), (gr_AbesideBits, z_l G.2.2.1 36 gr_besideBits), (nw_o, z_o 4 [.ref nw_Aheight, .ref nw_Adrops, z_i nw_hours, .long nw_restless]), (nw_Aheight, z_a G.2.1 36 (z_up nw_height x1 ((nw_height x1) + s6))), (nw_Adrops, z_a G.2.1 36 nw_drops), (un_o, z_o 1 [.ref un_Aheights, .ref un_Adrops, .ref un_Ahours, z_i un_many_18]), (un_Aheights, z_a G.2.1 288 un_heights_15), (un_Adrops, z_a G.2.1 288 un_drops_16), (un_Ahours, z_a G.2.1 8 un_hours_17)]) rfl ?_
          refine z_aload_n C dX5_stone_78 1 rfl ?_
          refine z_get C zf_X5_26 dX5_stone_79 0 rfl rfl ?_
          refine z_aload_n C dX5_stone_82 1 rfl ?_
          refine z_get C zf_X5_19 dX5_stone_83 0 rfl rfl ?_
          obtain ⟨nw_drops_21, nw_restless_22, k23, hm⟩ := z_b2s hm
          refine z_callVv C (k_X4_flow l G N nw_o nw_Aheight nw_Adrops gr_o gr_Akind gr_Abeside gr_AbesideBits (z_up nw_height x1 ((nw_height x1) + s6)) nw_drops nw_hours nw_restless gr_rows gr_columns gr_cells gr_kind gr_beside gr_besideBits (z_r_up h_nw_height c8) h_nw_drops h_nw_hours h_gr_rows h_gr_columns h_gr_cells h_gr_kind h_gr_beside nw_drops_21 nw_restless_22 k23) zv_X4_flow zl_X5_152 dX5_stone_86 [7, 8, 9, 3, 4, 5, 6] rfl rfl rfl (ws' := [(m_o, z_o 5 [.ref tx_o, .ref gr_o, .ref nw_o, .ref og_o, .ref la_o, .ref ss_o, .ref un_o, .ref kp_o, .ref m_AringCell, .ref m_AringDrops, z_i m_rings]), (m_AringCell, z_a G.2.1 6 m_ringCell), (m_AringDrops, z_a G.2.1 6 m_ringDrops), (gr_o, z_o 0 [z_i gr_rows, z_i gr_columns, z_i gr_cells, .ref gr_Akind, .ref gr_Abeside, .ref gr_AbesideBits]), (gr_Akind, z_a G.2.1 36 gr_kind), (gr_Abeside, z_a G.2.1 144 gr_beside), (gr_AbesideBits, z_l G.2.2.1 36 gr_besideBits), (nw_o, z_o 4 [.ref nw_Aheight, .ref nw_Adrops, z_i nw_hours, .long nw_restless_22]), (nw_Aheight, z_a G.2.1 36 (z_up nw_height x1 ((nw_height x1) + s6))), (nw_Adrops, z_a G.2.1 36 nw_drops_21), (un_o, z_o 1 [.ref un_Aheights, .ref un_Adrops, .ref un_Ahours, z_i un_many_18]), (un_Aheights, z_a G.2.1 288 un_heights_15), (un_Adrops, z_a G.2.1 288 un_drops_16), (un_Ahours, z_a G.2.1 8 un_hours_17)]) rfl 7 rfl rfl rfl [] rfl (Nat.le_of_ble_eq_true rfl) ⟨Nat.le_of_ble_eq_true rfl, Nat.le_of_ble_eq_true rfl⟩ ⟨rfl, rfl⟩ ⟨Nat.zero_le _, Nat.zero_le _⟩ (fun hF => ?_)
          obtain ⟨h_nw_drops_21, -⟩ := hF
          refine z_iload_n C dX5_stone_89 0 rfl ?_
          cases hm
          exact z_iret C E dX5_stone_90 ⟨rfl, rfl, c8, (z_r_up h_nw_height c8), h_nw_drops_21, h_un_heights_15, h_un_drops_16, h_un_hours_17, h_un_many_18, trivial⟩
        · have hm := z_neg c14 hm
          refine z_bipush C dX5_stone_54 (by decide) ?_
          cases hm
          exact z_iret C E dX5_stone_56 ⟨rfl, rfl, (z_k (-2) rfl), h_nw_height, h_nw_drops, h_un_heights, h_un_drops, h_un_hours, h_un_many, trivial⟩
    replace hm := hj
    clear hj
    refine z_if_eq (tgt := 30) C h_x2 dX5_stone_23 (by decide) (fun c5 => ?_) (fun c5 => ?_)
    · have hm := z_pos c5 hm
      refine z_iconst C dX5_stone_30 ?_
      refine z_sub (L' := [(0, .ref m_o), (1, z_i x1)]) [0, 1] rfl ?_
      cases hm
      exact J7 (z_k 1 rfl)
    · have hm := z_neg c5 hm
      refine z_iconst C dX5_stone_26 ?_
      refine z_goto (tgt := 31) C dX5_stone_27 (by decide) ?_
      refine z_sub (L' := [(0, .ref m_o), (1, z_i x1)]) [0, 1] rfl ?_
      cases hm
      exact J7 (z_k (-1) rfl)
  · have hm := z_neg c3 hm
    refine z_iconst C dX5_stone_11 ?_
    cases hm
    exact z_iret C E dX5_stone_12 ⟨rfl, rfl, (z_k (-1) rfl), h_nw_height, h_nw_drops, h_un_heights, h_un_drops, h_un_hours, h_un_many, trivial⟩
set_option maxRecDepth 100000 in
theorem k_X1_pop (l : Launch) (G : z_G) (N : Nat) (t_o t_Aheights t_Adrops t_Ahours w_o w_Aheight w_Adrops : Nat) (t_heights : (Int → Int)) (t_drops : (Int → Int)) (t_hours : (Int → Int)) (t_many : Int) (w_height : (Int → Int)) (w_drops : (Int → Int)) (w_hours : Int) (w_restless : Int64) (h_t_heights : z_r t_heights) (h_t_drops : z_r t_drops) (h_t_hours : z_r t_hours) (h_t_many : z_n t_many) (h_w_height : z_r w_height) (h_w_drops : z_r w_drops) (h_w_hours : z_n w_hours) (q_t_many : Int) (q_w_height : (Int → Int)) (q_w_drops : (Int → Int)) (q_w_hours : Int) (hm : m_X1_pop N t_heights t_drops t_hours t_many w_height w_drops w_hours = some (q_t_many, q_w_height, q_w_drops, q_w_hours)) : z_M l G yX1_pop cX1_pop 2 none (k2_rm 1 26) [.ref t_o, .ref w_o] ([(t_o, z_o 1 [.ref t_Aheights, .ref t_Adrops, .ref t_Ahours, z_i t_many]), (t_Aheights, z_a G.2.1 288 t_heights), (t_Adrops, z_a G.2.1 288 t_drops), (t_Ahours, z_a G.2.1 8 t_hours), (w_o, z_o 4 [.ref w_Aheight, .ref w_Adrops, z_i w_hours, .long w_restless]), (w_Aheight, z_a G.2.1 36 w_height), (w_Adrops, z_a G.2.1 36 w_drops)]) 0 0 (fun v w => v = none ∧ w = [(t_o, z_o 1 [.ref t_Aheights, .ref t_Adrops, .ref t_Ahours, z_i q_t_many]), (t_Aheights, z_a G.2.1 288 t_heights), (t_Adrops, z_a G.2.1 288 t_drops), (t_Ahours, z_a G.2.1 8 t_hours), (w_o, z_o 4 [.ref w_Aheight, .ref w_Adrops, z_i q_w_hours, .long w_restless]), (w_Aheight, z_a G.2.1 36 q_w_height), (w_Adrops, z_a G.2.1 36 q_w_drops)] ∧ z_n q_t_many ∧ z_r q_w_height ∧ z_r q_w_drops ∧ z_n q_w_hours ∧ True) := by
  unfold m_X1_pop at hm
  refine z_M.intro (by decide +kernel) (Nat.le_of_ble_eq_true rfl) (L := [(0, .ref t_o), (1, .ref w_o)]) rfl (fun X C E => ?_)
  refine z_aload_n C dX1_pop_0 0 rfl ?_
  refine z_get C zf_X1_21 dX1_pop_1 0 rfl rfl ?_
  refine z_if_le (tgt := 81) C h_t_many dX1_pop_4 (by decide) (fun c1 => ?_) (fun c1 => ?_)
  · have hm := z_pos c1 hm
    cases hm
    exact z_vret C E dX1_pop_81 ⟨rfl, rfl, h_t_many, h_w_height, h_w_drops, h_w_hours, trivial⟩
  · have hm := z_neg c1 hm
    refine z_aload_n C dX1_pop_7 0 rfl ?_
    refine z_get C zf_X1_21 dX1_pop_8 0 rfl rfl ?_
    refine z_bipush C dX1_pop_11 (by decide) ?_
    refine z_icmp_gt (tgt := 81) C h_t_many (z_k 8 rfl) dX1_pop_13 (by decide) (fun c2 => ?_) (fun c2 => ?_)
    · have hm := z_pos c2 hm
      cases hm
      exact z_vret C E dX1_pop_81 ⟨rfl, rfl, h_t_many, h_w_height, h_w_drops, h_w_hours, trivial⟩
    · have hm := z_neg c2 hm
      refine z_aload_n C dX1_pop_16 0 rfl ?_
      refine z_dup C rfl dX1_pop_17 ?_
      refine z_get C zf_X1_21 dX1_pop_18 0 rfl rfl ?_
      refine z_iconst C dX1_pop_21 ?_
      obtain ⟨c3, hm⟩ := z_chk_some hm
      refine z_isub C dX1_pop_22 ?_
      refine z_puti C zf_X1_21 dX1_pop_23 0 rfl rfl (ws' := [(t_o, z_o 1 [.ref t_Aheights, .ref t_Adrops, .ref t_Ahours, z_i (t_many - 1)]), (t_Aheights, z_a G.2.1 288 t_heights), (t_Adrops, z_a G.2.1 288 t_drops), (t_Ahours, z_a G.2.1 8 t_hours), (w_o, z_o 4 [.ref w_Aheight, .ref w_Adrops, z_i w_hours, .long w_restless]), (w_Aheight, z_a G.2.1 36 w_height), (w_Adrops, z_a G.2.1 36 w_drops)]) rfl ?_
      refine z_aload_n C dX1_pop_26 0 rfl ?_
      refine z_get C zf_X1_9 dX1_pop_27 0 rfl rfl ?_
      refine z_aload_n C dX1_pop_30 0 rfl ?_
      refine z_get C zf_X1_21 dX1_pop_31 0 rfl rfl ?_
      refine z_bipush C dX1_pop_34 (by decide) ?_
      obtain ⟨c4, hm⟩ := z_chk_some hm
      refine z_imul C dX1_pop_36 ?_
      refine z_aload_n C dX1_pop_37 1 rfl ?_
      refine z_get C zf_X1_28 dX1_pop_38 4 rfl rfl ?_
      refine z_iconst C dX1_pop_41 ?_
      refine z_bipush C dX1_pop_42 (by decide) ?_
      obtain ⟨c5, hm⟩ := z_chk_some hm
      refine z_copyi C zl_X1_33 z_ac1 z_ac2 z_ac3 dX1_pop_44 1 5 rfl rfl c5 c4 (z_k 0 rfl) (z_k 36 rfl) ⟨Nat.le_of_ble_eq_true rfl, Nat.le_of_ble_eq_true rfl⟩ (ws' := [(t_o, z_o 1 [.ref t_Aheights, .ref t_Adrops, .ref t_Ahours, z_i (t_many - 1)]), (t_Aheights, z_a G.2.1 288 t_heights), (t_Adrops, z_a G.2.1 288 t_drops), (t_Ahours, z_a G.2.1 8 t_hours), (w_o, z_o 4 [.ref w_Aheight, .ref w_Adrops, z_i w_hours, .long w_restless]), (w_Aheight, z_a G.2.1 36 (z_cpy t_heights w_height ((t_many - 1) * 36) 0 36)), (w_Adrops, z_a G.2.1 36 w_drops)]) rfl ?_
      refine z_aload_n C dX1_pop_47 0 rfl ?_
      refine z_get C zf_X1_15 dX1_pop_48 0 rfl rfl ?_
      refine z_aload_n C dX1_pop_51 0 rfl ?_
      refine z_get C zf_X1_21 dX1_pop_52 0 rfl rfl ?_
      refine z_bipush C dX1_pop_55 (by decide) ?_
      obtain ⟨c6, hm⟩ := z_chk_some hm
      refine z_imul C dX1_pop_57 ?_
      refine z_aload_n C dX1_pop_58 1 rfl ?_
      refine z_get C zf_X1_39 dX1_pop_59 4 rfl rfl ?_
      refine z_iconst C dX1_pop_62 ?_
      refine z_bipush C dX1_pop_63 (by decide) ?_
      obtain ⟨c7, hm⟩ := z_chk_some hm
      refine z_copyi C zl_X1_33 z_ac1 z_ac2 z_ac3 dX1_pop_65 2 6 rfl rfl c7 c6 (z_k 0 rfl) (z_k 36 rfl) ⟨Nat.le_of_ble_eq_true rfl, Nat.le_of_ble_eq_true rfl⟩ (ws' := [(t_o, z_o 1 [.ref t_Aheights, .ref t_Adrops, .ref t_Ahours, z_i (t_many - 1)]), (t_Aheights, z_a G.2.1 288 t_heights), (t_Adrops, z_a G.2.1 288 t_drops), (t_Ahours, z_a G.2.1 8 t_hours), (w_o, z_o 4 [.ref w_Aheight, .ref w_Adrops, z_i w_hours, .long w_restless]), (w_Aheight, z_a G.2.1 36 (z_cpy t_heights w_height ((t_many - 1) * 36) 0 36)), (w_Adrops, z_a G.2.1 36 (z_cpy t_drops w_drops ((t_many - 1) * 36) 0 36))]) rfl ?_
      refine z_aload_n C dX1_pop_68 1 rfl ?_
      refine z_aload_n C dX1_pop_69 0 rfl ?_
      refine z_get C zf_X1_18 dX1_pop_70 0 rfl rfl ?_
      refine z_aload_n C dX1_pop_73 0 rfl ?_
      refine z_get C zf_X1_21 dX1_pop_74 0 rfl rfl ?_
      obtain ⟨c8, hm⟩ := z_chk_some hm
      refine z_iald C dX1_pop_77 3 rfl c8 c3 ?_
      refine z_puti C zf_X1_40 dX1_pop_78 4 rfl rfl (ws' := [(t_o, z_o 1 [.ref t_Aheights, .ref t_Adrops, .ref t_Ahours, z_i (t_many - 1)]), (t_Aheights, z_a G.2.1 288 t_heights), (t_Adrops, z_a G.2.1 288 t_drops), (t_Ahours, z_a G.2.1 8 t_hours), (w_o, z_o 4 [.ref w_Aheight, .ref w_Adrops, z_i (t_hours (t_many - 1)), .long w_restless]), (w_Aheight, z_a G.2.1 36 (z_cpy t_heights w_height ((t_many - 1) * 36) 0 36)), (w_Adrops, z_a G.2.1 36 (z_cpy t_drops w_drops ((t_many - 1) * 36) 0 36))]) rfl ?_
      cases hm
      exact z_vret C E dX1_pop_81 ⟨rfl, rfl, c3, (z_r_cpy h_t_heights h_w_height), (z_r_cpy h_t_drops h_w_drops), (h_t_hours _), trivial⟩
set_option maxRecDepth 100000 in
theorem k_X5_undo (l : Launch) (G : z_G) (N : Nat) (m_o tx_o gr_o nw_o og_o la_o ss_o un_o kp_o m_AringCell m_AringDrops nw_Aheight nw_Adrops un_Aheights un_Adrops un_Ahours : Nat) (m_ringCell : (Int → Int)) (m_ringDrops : (Int → Int)) (m_rings : Int) (nw_height : (Int → Int)) (nw_drops : (Int → Int)) (nw_hours : Int) (nw_restless : Int64) (un_heights : (Int → Int)) (un_drops : (Int → Int)) (un_hours : (Int → Int)) (un_many : Int) (h_m_ringCell : z_r m_ringCell) (h_m_ringDrops : z_r m_ringDrops) (h_m_rings : z_n m_rings) (h_nw_height : z_r nw_height) (h_nw_drops : z_r nw_drops) (h_nw_hours : z_n nw_hours) (h_un_heights : z_r un_heights) (h_un_drops : z_r un_drops) (h_un_hours : z_r un_hours) (h_un_many : z_n un_many) (rr : Int) (q_nw_height : (Int → Int)) (q_nw_drops : (Int → Int)) (q_nw_hours : Int) (q_un_many : Int) (hm : m_X5_undo N nw_height nw_drops nw_hours un_heights un_drops un_hours un_many = some (rr, q_nw_height, q_nw_drops, q_nw_hours, q_un_many)) : z_M l G yX5_undo cX5_undo 1 (some .int) (k2_rm 2 47) [.ref m_o] ([(m_o, z_o 5 [.ref tx_o, .ref gr_o, .ref nw_o, .ref og_o, .ref la_o, .ref ss_o, .ref un_o, .ref kp_o, .ref m_AringCell, .ref m_AringDrops, z_i m_rings]), (m_AringCell, z_a G.2.1 6 m_ringCell), (m_AringDrops, z_a G.2.1 6 m_ringDrops), (nw_o, z_o 4 [.ref nw_Aheight, .ref nw_Adrops, z_i nw_hours, .long nw_restless]), (nw_Aheight, z_a G.2.1 36 nw_height), (nw_Adrops, z_a G.2.1 36 nw_drops), (un_o, z_o 1 [.ref un_Aheights, .ref un_Adrops, .ref un_Ahours, z_i un_many]), (un_Aheights, z_a G.2.1 288 un_heights), (un_Adrops, z_a G.2.1 288 un_drops), (un_Ahours, z_a G.2.1 8 un_hours)]) 0 0 (fun v w => v = some (z_i rr) ∧ w = [(m_o, z_o 5 [.ref tx_o, .ref gr_o, .ref nw_o, .ref og_o, .ref la_o, .ref ss_o, .ref un_o, .ref kp_o, .ref m_AringCell, .ref m_AringDrops, z_i m_rings]), (m_AringCell, z_a G.2.1 6 m_ringCell), (m_AringDrops, z_a G.2.1 6 m_ringDrops), (nw_o, z_o 4 [.ref nw_Aheight, .ref nw_Adrops, z_i q_nw_hours, .long nw_restless]), (nw_Aheight, z_a G.2.1 36 q_nw_height), (nw_Adrops, z_a G.2.1 36 q_nw_drops), (un_o, z_o 1 [.ref un_Aheights, .ref un_Adrops, .ref un_Ahours, z_i q_un_many]), (un_Aheights, z_a G.2.1 288 un_heights), (un_Adrops, z_a G.2.1 288 un_drops), (un_Ahours, z_a G.2.1 8 un_hours)] ∧ z_n rr ∧ z_r q_nw_height ∧ z_r q_nw_drops ∧ z_n q_nw_hours ∧ z_n q_un_many ∧ True) := by
  unfold m_X5_undo at hm
  refine z_M.intro (by decide +kernel) (Nat.le_of_ble_eq_true rfl) (L := [(0, .ref m_o)]) rfl (fun X C E => ?_)
  refine z_aload_n C dX5_undo_0 0 rfl ?_
  refine z_get C zf_X5_46 dX5_undo_1 0 rfl rfl ?_
  refine z_get C zf_X5_156 dX5_undo_4 6 rfl rfl ?_
  refine z_if_ne (tgt := 13) C h_un_many dX5_undo_7 (by decide) (fun c1 => ?_) (fun c1 => ?_)
  · have hm := z_pos c1 hm
    refine z_aload_n C dX5_undo_13 0 rfl ?_
    refine z_get C zf_X5_46 dX5_undo_14 0 rfl rfl ?_
    refine z_aload_n C dX5_undo_17 0 rfl ?_
    refine z_get C zf_X5_26 dX5_undo_18 0 rfl rfl ?_
    obtain ⟨un_many_2, nw_height_3, nw_drops_4, nw_hours_5, k6, hm⟩ := z_b4s hm
    refine z_callVv C (k_X1_pop l G N un_o un_Aheights un_Adrops un_Ahours nw_o nw_Aheight nw_Adrops un_heights un_drops un_hours un_many nw_height nw_drops nw_hours nw_restless h_un_heights h_un_drops h_un_hours h_un_many h_nw_height h_nw_drops h_nw_hours un_many_2 nw_height_3 nw_drops_4 nw_hours_5 k6) zv_X1_pop zl_X5_159 dX5_undo_21 [6, 7, 8, 9, 3, 4, 5] rfl rfl rfl (ws' := [(m_o, z_o 5 [.ref tx_o, .ref gr_o, .ref nw_o, .ref og_o, .ref la_o, .ref ss_o, .ref un_o, .ref kp_o, .ref m_AringCell, .ref m_AringDrops, z_i m_rings]), (m_AringCell, z_a G.2.1 6 m_ringCell), (m_AringDrops, z_a G.2.1 6 m_ringDrops), (nw_o, z_o 4 [.ref nw_Aheight, .ref nw_Adrops, z_i nw_hours_5, .long nw_restless]), (nw_Aheight, z_a G.2.1 36 nw_height_3), (nw_Adrops, z_a G.2.1 36 nw_drops_4), (un_o, z_o 1 [.ref un_Aheights, .ref un_Adrops, .ref un_Ahours, z_i un_many_2]), (un_Aheights, z_a G.2.1 288 un_heights), (un_Adrops, z_a G.2.1 288 un_drops), (un_Ahours, z_a G.2.1 8 un_hours)]) rfl 6 rfl rfl rfl [] rfl (Nat.le_of_ble_eq_true rfl) ⟨Nat.le_of_ble_eq_true rfl, Nat.le_of_ble_eq_true rfl⟩ ⟨rfl, rfl⟩ ⟨Nat.zero_le _, Nat.zero_le _⟩ (fun hF => ?_)
    obtain ⟨h_un_many_2, h_nw_height_3, h_nw_drops_4, h_nw_hours_5, -⟩ := hF
    refine z_aload_n C dX5_undo_24 0 rfl ?_
    refine z_get C zf_X5_46 dX5_undo_25 0 rfl rfl ?_
    refine z_get C zf_X5_156 dX5_undo_28 6 rfl rfl ?_
    cases hm
    exact z_iret C E dX5_undo_31 ⟨rfl, rfl, h_un_many_2, h_nw_height_3, h_nw_drops_4, h_nw_hours_5, h_un_many_2, trivial⟩
  · have hm := z_neg c1 hm
    refine z_bipush C dX5_undo_10 (by decide) ?_
    cases hm
    exact z_iret C E dX5_undo_12 ⟨rfl, rfl, (z_k (-2) rfl), h_nw_height, h_nw_drops, h_nw_hours, h_un_many, trivial⟩
set_option maxRecDepth 100000 in
theorem k_X5_behind (l : Launch) (G : z_G) (N : Nat) (m_o tx_o gr_o nw_o og_o la_o ss_o un_o kp_o m_AringCell m_AringDrops gr_Akind gr_Abeside gr_AbesideBits nw_Aheight nw_Adrops la_Aheight la_Adrops ss_Astate ss_Awaiting : Nat) (m_ringCell : (Int → Int)) (m_ringDrops : (Int → Int)) (m_rings : Int) (gr_rows : Int) (gr_columns : Int) (gr_cells : Int) (gr_kind : (Int → Int)) (gr_beside : (Int → Int)) (gr_besideBits : (Int → Int64)) (nw_height : (Int → Int)) (nw_drops : (Int → Int)) (nw_hours : Int) (nw_restless : Int64) (la_height : (Int → Int)) (la_drops : (Int → Int)) (la_hours : Int) (la_restless : Int64) (ss_state : (Int → Int)) (ss_waiting : (Int → Int)) (ss_waits : Int) (ss_cells : Int) (ss_many : Int) (x1 : Int) (x2 : Int) (x3 : Int) (h_m_ringCell : z_r m_ringCell) (h_m_ringDrops : z_r m_ringDrops) (h_m_rings : z_n m_rings) (h_gr_rows : z_n gr_rows) (h_gr_columns : z_n gr_columns) (h_gr_cells : z_n gr_cells) (h_gr_kind : z_r gr_kind) (h_gr_beside : z_r gr_beside) (h_nw_height : z_r nw_height) (h_nw_drops : z_r nw_drops) (h_nw_hours : z_n nw_hours) (h_la_height : z_r la_height) (h_la_drops : z_r la_drops) (h_la_hours : z_n la_hours) (h_ss_state : z_r ss_state) (h_ss_waiting : z_r ss_waiting) (h_ss_waits : z_n ss_waits) (h_ss_cells : z_n ss_cells) (h_ss_many : z_n ss_many) (h_x1 : z_n x1) (h_x2 : z_n x2) (h_x3 : z_n x3) (rr : Int) (q_la_height : (Int → Int)) (q_la_drops : (Int → Int)) (q_la_hours : Int) (q_la_restless : Int64) (q_ss_state : (Int → Int)) (q_ss_waiting : (Int → Int)) (q_ss_waits : Int) (q_ss_cells : Int) (q_ss_many : Int) (hm : m_X5_behind N gr_cells gr_kind gr_beside gr_besideBits nw_height nw_drops nw_hours la_height la_drops la_hours la_restless ss_state ss_waiting ss_waits ss_cells ss_many x1 x2 x3 = some (rr, q_la_height, q_la_drops, q_la_hours, q_la_restless, q_ss_state, q_ss_waiting, q_ss_waits, q_ss_cells, q_ss_many)) : z_M l G yX5_behind cX5_behind 4 (some .int) (k2_rm 7 156) [.ref m_o, z_i x1, z_i x2, z_i x3] ([(m_o, z_o 5 [.ref tx_o, .ref gr_o, .ref nw_o, .ref og_o, .ref la_o, .ref ss_o, .ref un_o, .ref kp_o, .ref m_AringCell, .ref m_AringDrops, z_i m_rings]), (m_AringCell, z_a G.2.1 6 m_ringCell), (m_AringDrops, z_a G.2.1 6 m_ringDrops), (gr_o, z_o 0 [z_i gr_rows, z_i gr_columns, z_i gr_cells, .ref gr_Akind, .ref gr_Abeside, .ref gr_AbesideBits]), (gr_Akind, z_a G.2.1 36 gr_kind), (gr_Abeside, z_a G.2.1 144 gr_beside), (gr_AbesideBits, z_l G.2.2.1 36 gr_besideBits), (nw_o, z_o 4 [.ref nw_Aheight, .ref nw_Adrops, z_i nw_hours, .long nw_restless]), (nw_Aheight, z_a G.2.1 36 nw_height), (nw_Adrops, z_a G.2.1 36 nw_drops), (la_o, z_o 4 [.ref la_Aheight, .ref la_Adrops, z_i la_hours, .long la_restless]), (la_Aheight, z_a G.2.1 36 la_height), (la_Adrops, z_a G.2.1 36 la_drops), (ss_o, z_o 2 [.ref ss_Astate, .ref ss_Awaiting, z_i ss_waits, z_i ss_cells, z_i ss_many]), (ss_Astate, z_a G.2.1 36 ss_state), (ss_Awaiting, z_a G.2.1 36 ss_waiting)]) 0 0 (fun v w => v = some (z_i rr) ∧ w = [(m_o, z_o 5 [.ref tx_o, .ref gr_o, .ref nw_o, .ref og_o, .ref la_o, .ref ss_o, .ref un_o, .ref kp_o, .ref m_AringCell, .ref m_AringDrops, z_i m_rings]), (m_AringCell, z_a G.2.1 6 m_ringCell), (m_AringDrops, z_a G.2.1 6 m_ringDrops), (gr_o, z_o 0 [z_i gr_rows, z_i gr_columns, z_i gr_cells, .ref gr_Akind, .ref gr_Abeside, .ref gr_AbesideBits]), (gr_Akind, z_a G.2.1 36 gr_kind), (gr_Abeside, z_a G.2.1 144 gr_beside), (gr_AbesideBits, z_l G.2.2.1 36 gr_besideBits), (nw_o, z_o 4 [.ref nw_Aheight, .ref nw_Adrops, z_i nw_hours, .long nw_restless]), (nw_Aheight, z_a G.2.1 36 nw_height), (nw_Adrops, z_a G.2.1 36 nw_drops), (la_o, z_o 4 [.ref la_Aheight, .ref la_Adrops, z_i q_la_hours, .long q_la_restless]), (la_Aheight, z_a G.2.1 36 q_la_height), (la_Adrops, z_a G.2.1 36 q_la_drops), (ss_o, z_o 2 [.ref ss_Astate, .ref ss_Awaiting, z_i q_ss_waits, z_i q_ss_cells, z_i q_ss_many]), (ss_Astate, z_a G.2.1 36 q_ss_state), (ss_Awaiting, z_a G.2.1 36 q_ss_waiting)] ∧ z_n rr ∧ z_r q_la_height ∧ z_r q_la_drops ∧ z_n q_la_hours ∧ z_r q_ss_state ∧ z_r q_ss_waiting ∧ z_n q_ss_waits ∧ z_n q_ss_cells ∧ z_n q_ss_many ∧ True) := by
  unfold m_X5_behind at hm
  refine z_M.intro (by decide +kernel) (Nat.le_of_ble_eq_true rfl) (L := [(0, .ref m_o), (1, z_i x1), (2, z_i x2), (3, z_i x3)]) rfl (fun X C E => ?_)
  refine z_iload_n C dX5_behind_0 1 rfl ?_
  refine z_iconst C dX5_behind_1 ?_
  refine z_bipush C dX5_behind_2 (by decide) ?_
  obtain ⟨r1, k2, hm⟩ := z_b1s hm
  refine z_callSi C (k_X5_isFrom l G N x1 0 40 h_x1 (z_k 0 rfl) (z_k 40 rfl) r1 k2) zs_X5_isFrom zl_X5_100 dX5_behind_4 [] rfl rfl rfl (ws' := [(m_o, z_o 5 [.ref tx_o, .ref gr_o, .ref nw_o, .ref og_o, .ref la_o, .ref ss_o, .ref un_o, .ref kp_o, .ref m_AringCell, .ref m_AringDrops, z_i m_rings]), (m_AringCell, z_a G.2.1 6 m_ringCell), (m_AringDrops, z_a G.2.1 6 m_ringDrops), (gr_o, z_o 0 [z_i gr_rows, z_i gr_columns, z_i gr_cells, .ref gr_Akind, .ref gr_Abeside, .ref gr_AbesideBits]), (gr_Akind, z_a G.2.1 36 gr_kind), (gr_Abeside, z_a G.2.1 144 gr_beside), (gr_AbesideBits, z_l G.2.2.1 36 gr_besideBits), (nw_o, z_o 4 [.ref nw_Aheight, .ref nw_Adrops, z_i nw_hours, .long nw_restless]), (nw_Aheight, z_a G.2.1 36 nw_height), (nw_Adrops, z_a G.2.1 36 nw_drops), (la_o, z_o 4 [.ref la_Aheight, .ref la_Adrops, z_i la_hours, .long la_restless]), (la_Aheight, z_a G.2.1 36 la_height), (la_Adrops, z_a G.2.1 36 la_drops), (ss_o, z_o 2 [.ref ss_Astate, .ref ss_Awaiting, z_i ss_waits, z_i ss_cells, z_i ss_many]), (ss_Astate, z_a G.2.1 36 ss_state), (ss_Awaiting, z_a G.2.1 36 ss_waiting)]) rfl rfl [] rfl (Nat.le_of_ble_eq_true rfl) ⟨Nat.le_of_ble_eq_true rfl, Nat.le_of_ble_eq_true rfl⟩ ⟨rfl, rfl⟩ ⟨Nat.zero_le _, Nat.zero_le _⟩ (fun hF => ?_)
  obtain ⟨hb_r1, -⟩ := hF
  refine z_if_eq (tgt := 30) C (z_n01 hb_r1) dX5_behind_7 (by decide) (fun c3 => ?_) (fun c3 => ?_)
  · have hm := z_pos c3 hm
    refine z_iconst C dX5_behind_30 ?_
    cases hm
    exact z_iret C E dX5_behind_31 ⟨rfl, rfl, (z_k (-1) rfl), h_la_height, h_la_drops, h_la_hours, h_ss_state, h_ss_waiting, h_ss_waits, h_ss_cells, h_ss_many, trivial⟩
  · have hm := z_neg c3 hm
    refine z_aload_n C dX5_behind_10 0 rfl ?_
    refine z_get C zf_X5_19 dX5_behind_11 0 rfl rfl ?_
    refine z_iload_n C dX5_behind_14 2 rfl ?_
    obtain ⟨r4, k5, hm⟩ := z_b1s hm
    refine z_callVi C (k_X0_holds l G N gr_o gr_Akind gr_Abeside gr_AbesideBits gr_rows gr_columns gr_cells gr_kind gr_beside gr_besideBits x2 h_gr_rows h_gr_columns h_gr_cells h_gr_kind h_gr_beside h_x2 r4 k5) zv_X0_holds zl_X5_96 dX5_behind_15 [3, 4, 5, 6] rfl rfl rfl (ws' := [(m_o, z_o 5 [.ref tx_o, .ref gr_o, .ref nw_o, .ref og_o, .ref la_o, .ref ss_o, .ref un_o, .ref kp_o, .ref m_AringCell, .ref m_AringDrops, z_i m_rings]), (m_AringCell, z_a G.2.1 6 m_ringCell), (m_AringDrops, z_a G.2.1 6 m_ringDrops), (gr_o, z_o 0 [z_i gr_rows, z_i gr_columns, z_i gr_cells, .ref gr_Akind, .ref gr_Abeside, .ref gr_AbesideBits]), (gr_Akind, z_a G.2.1 36 gr_kind), (gr_Abeside, z_a G.2.1 144 gr_beside), (gr_AbesideBits, z_l G.2.2.1 36 gr_besideBits), (nw_o, z_o 4 [.ref nw_Aheight, .ref nw_Adrops, z_i nw_hours, .long nw_restless]), (nw_Aheight, z_a G.2.1 36 nw_height), (nw_Adrops, z_a G.2.1 36 nw_drops), (la_o, z_o 4 [.ref la_Aheight, .ref la_Adrops, z_i la_hours, .long la_restless]), (la_Aheight, z_a G.2.1 36 la_height), (la_Adrops, z_a G.2.1 36 la_drops), (ss_o, z_o 2 [.ref ss_Astate, .ref ss_Awaiting, z_i ss_waits, z_i ss_cells, z_i ss_many]), (ss_Astate, z_a G.2.1 36 ss_state), (ss_Awaiting, z_a G.2.1 36 ss_waiting)]) rfl 3 rfl rfl rfl [] rfl (Nat.le_of_ble_eq_true rfl) ⟨Nat.le_of_ble_eq_true rfl, Nat.le_of_ble_eq_true rfl⟩ ⟨rfl, rfl⟩ ⟨Nat.zero_le _, Nat.zero_le _⟩ (fun hF => ?_)
    obtain ⟨hb_r4, -⟩ := hF
    refine z_if_eq (tgt := 30) C (z_n01 hb_r4) dX5_behind_18 (by decide) (fun c6 => ?_) (fun c6 => ?_)
    · have hm := z_pos c6 hm
      refine z_iconst C dX5_behind_30 ?_
      cases hm
      exact z_iret C E dX5_behind_31 ⟨rfl, rfl, (z_k (-1) rfl), h_la_height, h_la_drops, h_la_hours, h_ss_state, h_ss_waiting, h_ss_waits, h_ss_cells, h_ss_many, trivial⟩
    · have hm := z_neg c6 hm
      refine z_iload_n C dX5_behind_21 3 rfl ?_
      refine z_iconst C dX5_behind_22 ?_
      refine z_iconst C dX5_behind_23 ?_
      obtain ⟨r7, k8, hm⟩ := z_b1s hm
      refine z_callSi C (k_X5_isFrom l G N x3 0 1 h_x3 (z_k 0 rfl) (z_k 1 rfl) r7 k8) zs_X5_isFrom zl_X5_100 dX5_behind_24 [] rfl rfl rfl (ws' := [(m_o, z_o 5 [.ref tx_o, .ref gr_o, .ref nw_o, .ref og_o, .ref la_o, .ref ss_o, .ref un_o, .ref kp_o, .ref m_AringCell, .ref m_AringDrops, z_i m_rings]), (m_AringCell, z_a G.2.1 6 m_ringCell), (m_AringDrops, z_a G.2.1 6 m_ringDrops), (gr_o, z_o 0 [z_i gr_rows, z_i gr_columns, z_i gr_cells, .ref gr_Akind, .ref gr_Abeside, .ref gr_AbesideBits]), (gr_Akind, z_a G.2.1 36 gr_kind), (gr_Abeside, z_a G.2.1 144 gr_beside), (gr_AbesideBits, z_l G.2.2.1 36 gr_besideBits), (nw_o, z_o 4 [.ref nw_Aheight, .ref nw_Adrops, z_i nw_hours, .long nw_restless]), (nw_Aheight, z_a G.2.1 36 nw_height), (nw_Adrops, z_a G.2.1 36 nw_drops), (la_o, z_o 4 [.ref la_Aheight, .ref la_Adrops, z_i la_hours, .long la_restless]), (la_Aheight, z_a G.2.1 36 la_height), (la_Adrops, z_a G.2.1 36 la_drops), (ss_o, z_o 2 [.ref ss_Astate, .ref ss_Awaiting, z_i ss_waits, z_i ss_cells, z_i ss_many]), (ss_Astate, z_a G.2.1 36 ss_state), (ss_Awaiting, z_a G.2.1 36 ss_waiting)]) rfl rfl [] rfl (Nat.le_of_ble_eq_true rfl) ⟨Nat.le_of_ble_eq_true rfl, Nat.le_of_ble_eq_true rfl⟩ ⟨rfl, rfl⟩ ⟨Nat.zero_le _, Nat.zero_le _⟩ (fun hF => ?_)
      obtain ⟨hb_r7, -⟩ := hF
      refine z_if_ne (tgt := 32) C (z_n01 hb_r7) dX5_behind_27 (by decide) (fun c9 => ?_) (fun c9 => ?_)
      · have hm := z_pos c9 hm
        refine z_aload_n C dX5_behind_32 0 rfl ?_
        refine z_get C zf_X5_33 dX5_behind_33 0 rfl rfl ?_
        refine z_aload_n C dX5_behind_36 0 rfl ?_
        refine z_get C zf_X5_26 dX5_behind_37 0 rfl rfl ?_
        obtain ⟨la_height_10, la_drops_11, la_hours_12, k13, hm⟩ := z_b3s hm
        refine z_callVv C (k_X4_copyFrom l G N la_o la_Aheight la_Adrops nw_o nw_Aheight nw_Adrops la_height la_drops la_hours la_restless nw_height nw_drops nw_hours nw_restless h_la_height h_la_drops h_la_hours h_nw_height h_nw_drops h_nw_hours la_height_10 la_drops_11 la_hours_12 k13) zv_X4_copyFrom zl_X5_162 dX5_behind_40 [10, 11, 12, 7, 8, 9] rfl rfl rfl (ws' := [(m_o, z_o 5 [.ref tx_o, .ref gr_o, .ref nw_o, .ref og_o, .ref la_o, .ref ss_o, .ref un_o, .ref kp_o, .ref m_AringCell, .ref m_AringDrops, z_i m_rings]), (m_AringCell, z_a G.2.1 6 m_ringCell), (m_AringDrops, z_a G.2.1 6 m_ringDrops), (gr_o, z_o 0 [z_i gr_rows, z_i gr_columns, z_i gr_cells, .ref gr_Akind, .ref gr_Abeside, .ref gr_AbesideBits]), (gr_Akind, z_a G.2.1 36 gr_kind), (gr_Abeside, z_a G.2.1 144 gr_beside), (gr_AbesideBits, z_l G.2.2.1 36 gr_besideBits), (nw_o, z_o 4 [.ref nw_Aheight, .ref nw_Adrops, z_i nw_hours, .long nw_restless]), (nw_Aheight, z_a G.2.1 36 nw_height), (nw_Adrops, z_a G.2.1 36 nw_drops), (la_o, z_o 4 [.ref la_Aheight, .ref la_Adrops, z_i la_hours_12, .long la_restless]), (la_Aheight, z_a G.2.1 36 la_height_10), (la_Adrops, z_a G.2.1 36 la_drops_11), (ss_o, z_o 2 [.ref ss_Astate, .ref ss_Awaiting, z_i ss_waits, z_i ss_cells, z_i ss_many]), (ss_Astate, z_a G.2.1 36 ss_state), (ss_Awaiting, z_a G.2.1 36 ss_waiting)]) rfl 10 rfl rfl rfl [] rfl (Nat.le_of_ble_eq_true rfl) ⟨Nat.le_of_ble_eq_true rfl, Nat.le_of_ble_eq_true rfl⟩ ⟨rfl, rfl⟩ ⟨Nat.zero_le _, Nat.zero_le _⟩ (fun hF => ?_)
        obtain ⟨h_la_height_10, h_la_drops_11, h_la_hours_12, -⟩ := hF
        refine z_aload_n C dX5_behind_43 0 rfl ?_
        refine z_get C zf_X5_33 dX5_behind_44 0 rfl rfl ?_
        refine z_aload_n C dX5_behind_47 0 rfl ?_
        refine z_get C zf_X5_19 dX5_behind_48 0 rfl rfl ?_
        refine z_iload_n C dX5_behind_51 1 rfl ?_
        obtain ⟨la_drops_14, la_hours_15, la_restless_16, k17, hm⟩ := z_b3s hm
        refine z_callVv C (k_X4_passHours l G N la_o la_Aheight la_Adrops gr_o gr_Akind gr_Abeside gr_AbesideBits la_height_10 la_drops_11 la_hours_12 la_restless gr_rows gr_columns gr_cells gr_kind gr_beside gr_besideBits x1 h_la_height_10 h_la_drops_11 h_la_hours_12 h_gr_rows h_gr_columns h_gr_cells h_gr_kind h_gr_beside h_x1 la_drops_14 la_hours_15 la_restless_16 k17) zv_X4_passHours zl_X5_140 dX5_behind_52 [10, 11, 12, 3, 4, 5, 6] rfl rfl rfl (ws' := [(m_o, z_o 5 [.ref tx_o, .ref gr_o, .ref nw_o, .ref og_o, .ref la_o, .ref ss_o, .ref un_o, .ref kp_o, .ref m_AringCell, .ref m_AringDrops, z_i m_rings]), (m_AringCell, z_a G.2.1 6 m_ringCell), (m_AringDrops, z_a G.2.1 6 m_ringDrops), (gr_o, z_o 0 [z_i gr_rows, z_i gr_columns, z_i gr_cells, .ref gr_Akind, .ref gr_Abeside, .ref gr_AbesideBits]), (gr_Akind, z_a G.2.1 36 gr_kind), (gr_Abeside, z_a G.2.1 144 gr_beside), (gr_AbesideBits, z_l G.2.2.1 36 gr_besideBits), (nw_o, z_o 4 [.ref nw_Aheight, .ref nw_Adrops, z_i nw_hours, .long nw_restless]), (nw_Aheight, z_a G.2.1 36 nw_height), (nw_Adrops, z_a G.2.1 36 nw_drops), (la_o, z_o 4 [.ref la_Aheight, .ref la_Adrops, z_i la_hours_15, .long la_restless_16]), (la_Aheight, z_a G.2.1 36 la_height_10), (la_Adrops, z_a G.2.1 36 la_drops_14), (ss_o, z_o 2 [.ref ss_Astate, .ref ss_Awaiting, z_i ss_waits, z_i ss_cells, z_i ss_many]), (ss_Astate, z_a G.2.1 36 ss_state), (ss_Awaiting, z_a G.2.1 36 ss_waiting)]) rfl 10 rfl rfl rfl [] rfl (Nat.le_of_ble_eq_true rfl) ⟨Nat.le_of_ble_eq_true rfl, Nat.le_of_ble_eq_true rfl⟩ ⟨rfl, rfl⟩ ⟨Nat.zero_le _, Nat.zero_le _⟩ (fun hF => ?_)
        obtain ⟨h_la_drops_14, h_la_hours_15, -⟩ := hF
        refine z_iload_n C dX5_behind_55 3 rfl ?_
        refine z_if_ne (tgt := 69) C h_x3 dX5_behind_56 (by decide) (fun c18 => ?_) (fun c18 => ?_)
        · have hm := z_pos c18 hm
          refine z_aload_n C dX5_behind_69 0 rfl ?_
          refine z_get C zf_X5_39 dX5_behind_70 0 rfl rfl ?_
          refine z_aload_n C dX5_behind_73 0 rfl ?_
          refine z_get C zf_X5_19 dX5_behind_74 0 rfl rfl ?_
          refine z_aload_n C dX5_behind_77 0 rfl ?_
          refine z_get C zf_X5_33 dX5_behind_78 0 rfl rfl ?_
          obtain ⟨ss_state_19, ss_waiting_20, ss_waits_21, ss_cells_22, ss_many_23, k24, hm⟩ := z_b5s hm
          refine z_callVv C (k_X2_map l G N ss_o ss_Astate ss_Awaiting gr_o gr_Akind gr_Abeside gr_AbesideBits la_o la_Aheight la_Adrops ss_state ss_waiting ss_waits ss_cells ss_many gr_rows gr_columns gr_cells gr_kind gr_beside gr_besideBits la_height_10 la_drops_14 la_hours_15 la_restless_16 h_ss_state h_ss_waiting h_ss_waits h_ss_cells h_ss_many h_gr_rows h_gr_columns h_gr_cells h_gr_kind h_gr_beside h_la_height_10 h_la_drops_14 h_la_hours_15 ss_state_19 ss_waiting_20 ss_waits_21 ss_cells_22 ss_many_23 k24) zv_X2_map zl_X5_113 dX5_behind_81 [13, 14, 15, 3, 4, 5, 6, 10, 11, 12] rfl rfl rfl (ws' := [(m_o, z_o 5 [.ref tx_o, .ref gr_o, .ref nw_o, .ref og_o, .ref la_o, .ref ss_o, .ref un_o, .ref kp_o, .ref m_AringCell, .ref m_AringDrops, z_i m_rings]), (m_AringCell, z_a G.2.1 6 m_ringCell), (m_AringDrops, z_a G.2.1 6 m_ringDrops), (gr_o, z_o 0 [z_i gr_rows, z_i gr_columns, z_i gr_cells, .ref gr_Akind, .ref gr_Abeside, .ref gr_AbesideBits]), (gr_Akind, z_a G.2.1 36 gr_kind), (gr_Abeside, z_a G.2.1 144 gr_beside), (gr_AbesideBits, z_l G.2.2.1 36 gr_besideBits), (nw_o, z_o 4 [.ref nw_Aheight, .ref nw_Adrops, z_i nw_hours, .long nw_restless]), (nw_Aheight, z_a G.2.1 36 nw_height), (nw_Adrops, z_a G.2.1 36 nw_drops), (la_o, z_o 4 [.ref la_Aheight, .ref la_Adrops, z_i la_hours_15, .long la_restless_16]), (la_Aheight, z_a G.2.1 36 la_height_10), (la_Adrops, z_a G.2.1 36 la_drops_14), (ss_o, z_o 2 [.ref ss_Astate, .ref ss_Awaiting, z_i ss_waits_21, z_i ss_cells_22, z_i ss_many_23]), (ss_Astate, z_a G.2.1 36 ss_state_19), (ss_Awaiting, z_a G.2.1 36 ss_waiting_20)]) rfl 13 rfl rfl rfl [] rfl (Nat.le_of_ble_eq_true rfl) ⟨Nat.le_of_ble_eq_true rfl, Nat.le_of_ble_eq_true rfl⟩ ⟨rfl, rfl⟩ ⟨Nat.zero_le _, Nat.zero_le _⟩ (fun hF => ?_)
          obtain ⟨h_ss_state_19, h_ss_waiting_20, h_ss_waits_21, h_ss_cells_22, h_ss_many_23, -⟩ := hF
          refine z_aload_n C dX5_behind_84 0 rfl ?_
          refine z_get C zf_X5_39 dX5_behind_85 0 rfl rfl ?_
          refine z_iload_n C dX5_behind_88 2 rfl ?_
          obtain ⟨r25, k26, hm⟩ := z_b1s hm
          refine z_callVi C (k_X2_stateOf l G N ss_o ss_Astate ss_Awaiting ss_state_19 ss_waiting_20 ss_waits_21 ss_cells_22 ss_many_23 x2 h_ss_state_19 h_ss_waiting_20 h_ss_waits_21 h_ss_cells_22 h_ss_many_23 h_x2 r25 k26) zv_X2_stateOf zl_X5_117 dX5_behind_89 [13, 14, 15] rfl rfl rfl (ws' := [(m_o, z_o 5 [.ref tx_o, .ref gr_o, .ref nw_o, .ref og_o, .ref la_o, .ref ss_o, .ref un_o, .ref kp_o, .ref m_AringCell, .ref m_AringDrops, z_i m_rings]), (m_AringCell, z_a G.2.1 6 m_ringCell), (m_AringDrops, z_a G.2.1 6 m_ringDrops), (gr_o, z_o 0 [z_i gr_rows, z_i gr_columns, z_i gr_cells, .ref gr_Akind, .ref gr_Abeside, .ref gr_AbesideBits]), (gr_Akind, z_a G.2.1 36 gr_kind), (gr_Abeside, z_a G.2.1 144 gr_beside), (gr_AbesideBits, z_l G.2.2.1 36 gr_besideBits), (nw_o, z_o 4 [.ref nw_Aheight, .ref nw_Adrops, z_i nw_hours, .long nw_restless]), (nw_Aheight, z_a G.2.1 36 nw_height), (nw_Adrops, z_a G.2.1 36 nw_drops), (la_o, z_o 4 [.ref la_Aheight, .ref la_Adrops, z_i la_hours_15, .long la_restless_16]), (la_Aheight, z_a G.2.1 36 la_height_10), (la_Adrops, z_a G.2.1 36 la_drops_14), (ss_o, z_o 2 [.ref ss_Astate, .ref ss_Awaiting, z_i ss_waits_21, z_i ss_cells_22, z_i ss_many_23]), (ss_Astate, z_a G.2.1 36 ss_state_19), (ss_Awaiting, z_a G.2.1 36 ss_waiting_20)]) rfl 13 rfl rfl rfl [] rfl (Nat.le_of_ble_eq_true rfl) ⟨Nat.le_of_ble_eq_true rfl, Nat.le_of_ble_eq_true rfl⟩ ⟨rfl, rfl⟩ ⟨Nat.zero_le _, Nat.zero_le _⟩ (fun hF => ?_)
          obtain ⟨h_r25, -⟩ := hF
          cases hm
          exact z_iret C E dX5_behind_92 ⟨rfl, rfl, h_r25, h_la_height_10, h_la_drops_14, h_la_hours_15, h_ss_state_19, h_ss_waiting_20, h_ss_waits_21, h_ss_cells_22, h_ss_many_23, trivial⟩
        · have hm := z_neg c18 hm
          refine z_aload_n C dX5_behind_59 0 rfl ?_
          refine z_get C zf_X5_33 dX5_behind_60 0 rfl rfl ?_
          refine z_get C zf_X5_110 dX5_behind_63 10 rfl rfl ?_
          refine z_iload_n C dX5_behind_66 2 rfl ?_
          obtain ⟨c27, hm⟩ := z_chk_some hm
          refine z_iald C dX5_behind_67 12 rfl c27 h_x2 ?_
          cases hm
          exact z_iret C E dX5_behind_68 ⟨rfl, rfl, (h_la_drops_14 _), h_la_height_10, h_la_drops_14, h_la_hours_15, h_ss_state, h_ss_waiting, h_ss_waits, h_ss_cells, h_ss_many, trivial⟩
      · have hm := z_neg c9 hm
        refine z_iconst C dX5_behind_30 ?_
        cases hm
        exact z_iret C E dX5_behind_31 ⟨rfl, rfl, (z_k (-1) rfl), h_la_height, h_la_drops, h_la_hours, h_ss_state, h_ss_waiting, h_ss_waits, h_ss_cells, h_ss_many, trivial⟩
set_option maxRecDepth 100000 in
theorem k_X4_firstWet (l : Launch) (G : z_G) (N : Nat) (t_o t_Aheight t_Adrops g_o g_Akind g_Abeside g_AbesideBits : Nat) (t_height : (Int → Int)) (t_drops : (Int → Int)) (t_hours : Int) (t_restless : Int64) (g_rows : Int) (g_columns : Int) (g_cells : Int) (g_kind : (Int → Int)) (g_beside : (Int → Int)) (g_besideBits : (Int → Int64)) (h_t_height : z_r t_height) (h_t_drops : z_r t_drops) (h_t_hours : z_n t_hours) (h_g_rows : z_n g_rows) (h_g_columns : z_n g_columns) (h_g_cells : z_n g_cells) (h_g_kind : z_r g_kind) (h_g_beside : z_r g_beside) (rr : Int) (hm : m_X4_firstWet N t_drops g_cells = some (rr)) : z_M l G yX4_firstWet cX4_firstWet 3 (some .int) (k2_rm 0 0) [.ref t_o, .ref g_o] ([(t_o, z_o 4 [.ref t_Aheight, .ref t_Adrops, z_i t_hours, .long t_restless]), (t_Aheight, z_a G.2.1 36 t_height), (t_Adrops, z_a G.2.1 36 t_drops), (g_o, z_o 0 [z_i g_rows, z_i g_columns, z_i g_cells, .ref g_Akind, .ref g_Abeside, .ref g_AbesideBits]), (g_Akind, z_a G.2.1 36 g_kind), (g_Abeside, z_a G.2.1 144 g_beside), (g_AbesideBits, z_l G.2.2.1 36 g_besideBits)]) 0 0 (fun v w => v = some (z_i rr) ∧ w = [(t_o, z_o 4 [.ref t_Aheight, .ref t_Adrops, z_i t_hours, .long t_restless]), (t_Aheight, z_a G.2.1 36 t_height), (t_Adrops, z_a G.2.1 36 t_drops), (g_o, z_o 0 [z_i g_rows, z_i g_columns, z_i g_cells, .ref g_Akind, .ref g_Abeside, .ref g_AbesideBits]), (g_Akind, z_a G.2.1 36 g_kind), (g_Abeside, z_a G.2.1 144 g_beside), (g_AbesideBits, z_l G.2.2.1 36 g_besideBits)] ∧ z_n rr ∧ True) := by
  unfold m_X4_firstWet at hm
  refine z_M.intro (by decide +kernel) (Nat.le_of_ble_eq_true rfl) (L := [(0, .ref t_o), (1, .ref g_o)]) rfl (fun X C E => ?_)
  refine z_iconst C dX4_firstWet_0 ?_
  refine z_istore_n C dX4_firstWet_1 (by decide) (L' := [(2, z_i 0), (0, .ref t_o), (1, .ref g_o)]) rfl ?_
  have L1 : ∀ (n1 : Nat) (v2_1 : Int), z_n v2_1 → m_X4_firstWet_l1 N g_cells t_drops n1 v2_1 = some (rr) → z_J X 0 0 ([(t_o, z_o 4 [.ref t_Aheight, .ref t_Adrops, z_i t_hours, .long t_restless]), (t_Aheight, z_a G.2.1 36 t_height), (t_Adrops, z_a G.2.1 36 t_drops), (g_o, z_o 0 [z_i g_rows, z_i g_columns, z_i g_cells, .ref g_Akind, .ref g_Abeside, .ref g_AbesideBits]), (g_Akind, z_a G.2.1 36 g_kind), (g_Abeside, z_a G.2.1 144 g_beside), (g_AbesideBits, z_l G.2.2.1 36 g_besideBits)]) [(0, .ref t_o), (1, .ref g_o), (2, z_i v2_1)] 2 [] := by
    clear hm
    intro n1
    induction n1 with
    | zero =>
      intro v2_1 h_v2_1 hm
      rw [m_X4_firstWet_l1] at hm
      cases hm
    | succ n1 ih1 =>
      intro v2_1 h_v2_1 hm
      rw [m_X4_firstWet_l1] at hm
      refine z_iload_n C dX4_firstWet_2 2 rfl ?_
      refine z_aload_n C dX4_firstWet_3 1 rfl ?_
      refine z_get C zf_X4_38 dX4_firstWet_4 3 rfl rfl ?_
      refine z_icmp_ge (tgt := 33) C h_v2_1 h_g_cells dX4_firstWet_7 (by decide) (fun c1 => ?_) (fun c1 => ?_)
      · have hm := z_pos c1 hm
        refine z_bipush C dX4_firstWet_33 (by decide) ?_
        cases hm
        exact z_iret C E dX4_firstWet_35 ⟨rfl, rfl, (z_k (-4) rfl), trivial⟩
      · have hm := z_neg c1 hm
        refine z_iload_n C dX4_firstWet_10 2 rfl ?_
        refine z_bipush C dX4_firstWet_11 (by decide) ?_
        refine z_icmp_ge (tgt := 33) C h_v2_1 (z_k 36 rfl) dX4_firstWet_13 (by decide) (fun c2 => ?_) (fun c2 => ?_)
        · have hm := z_pos c2 hm
          refine z_bipush C dX4_firstWet_33 (by decide) ?_
          cases hm
          exact z_iret C E dX4_firstWet_35 ⟨rfl, rfl, (z_k (-4) rfl), trivial⟩
        · have hm := z_neg c2 hm
          refine z_aload_n C dX4_firstWet_16 0 rfl ?_
          refine z_get C zf_X4_15 dX4_firstWet_17 0 rfl rfl ?_
          refine z_iload_n C dX4_firstWet_20 2 rfl ?_
          obtain ⟨c3, hm⟩ := z_chk_some hm
          refine z_iald C dX4_firstWet_21 2 rfl c3 h_v2_1 ?_
          refine z_if_le (tgt := 27) C (h_t_drops _) dX4_firstWet_22 (by decide) (fun c4 => ?_) (fun c4 => ?_)
          · have hm := z_pos c4 hm
            obtain ⟨c5, hm⟩ := z_chk_some hm
            refine z_iinc C dX4_firstWet_27 2 rfl (by decide) (L' := [(2, z_i (v2_1 + 1)), (0, .ref t_o), (1, .ref g_o)]) rfl ?_
            refine z_goto (tgt := 2) C dX4_firstWet_30 (by decide) ?_
            refine z_sub (L' := [(0, .ref t_o), (1, .ref g_o), (2, z_i (v2_1 + 1))]) [1, 2, 0] rfl ?_
            exact ih1 (v2_1 + 1) c5 hm
          · have hm := z_neg c4 hm
            refine z_iload_n C dX4_firstWet_25 2 rfl ?_
            cases hm
            exact z_iret C E dX4_firstWet_26 ⟨rfl, rfl, h_v2_1, trivial⟩
  refine z_sub (L' := [(0, .ref t_o), (1, .ref g_o), (2, z_i 0)]) [1, 2, 0] rfl ?_
  exact L1 N 0 (z_k 0 rfl) hm
