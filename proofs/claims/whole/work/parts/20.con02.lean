set_option maxRecDepth 100000 in
theorem k_X3_readInto (l : Launch) (G : z_G) (N : Nat) (t_o t_Aletters g_o g_Akind g_Abeside g_AbesideBits w_o w_Aheight w_Adrops : Nat) (t_letters : (Int → Int)) (t_length : Int) (t_at : Int) (g_rows : Int) (g_columns : Int) (g_cells : Int) (g_kind : (Int → Int)) (g_beside : (Int → Int)) (g_besideBits : (Int → Int64)) (w_height : (Int → Int)) (w_drops : (Int → Int)) (w_hours : Int) (w_restless : Int64) (h_t_letters : z_r t_letters) (h_t_length : z_n t_length) (h_t_at : z_n t_at) (h_g_rows : z_n g_rows) (h_g_columns : z_n g_columns) (h_g_cells : z_n g_cells) (h_g_kind : z_r g_kind) (h_g_beside : z_r g_beside) (h_w_height : z_r w_height) (h_w_drops : z_r w_drops) (h_w_hours : z_n w_hours) (rr : Int) (q_t_at : Int) (q_g_rows : Int) (q_g_columns : Int) (q_g_cells : Int) (q_g_kind : (Int → Int)) (q_g_beside : (Int → Int)) (q_g_besideBits : (Int → Int64)) (q_w_height : (Int → Int)) (q_w_drops : (Int → Int)) (q_w_hours : Int) (hm : m_X3_readInto N t_letters t_length t_at g_rows g_columns g_cells g_kind g_beside g_besideBits w_height w_drops w_hours = some (rr, q_t_at, q_g_rows, q_g_columns, q_g_cells, q_g_kind, q_g_beside, q_g_besideBits, q_w_height, q_w_drops, q_w_hours)) : z_M l G yX3_readInto cX3_readInto 11 (some .int) (k2_rm 5 114) [.ref t_o, .ref g_o, .ref w_o] ([(t_o, z_o 3 [.ref t_Aletters, z_i t_length, z_i t_at]), (t_Aletters, z_a G.2.2.2.1 200 t_letters), (g_o, z_o 0 [z_i g_rows, z_i g_columns, z_i g_cells, .ref g_Akind, .ref g_Abeside, .ref g_AbesideBits]), (g_Akind, z_a G.2.1 36 g_kind), (g_Abeside, z_a G.2.1 144 g_beside), (g_AbesideBits, z_l G.2.2.1 36 g_besideBits), (w_o, z_o 4 [.ref w_Aheight, .ref w_Adrops, z_i w_hours, .long w_restless]), (w_Aheight, z_a G.2.1 36 w_height), (w_Adrops, z_a G.2.1 36 w_drops)]) 0 0 (fun v w => v = some (z_i rr) ∧ w = [(t_o, z_o 3 [.ref t_Aletters, z_i t_length, z_i q_t_at]), (t_Aletters, z_a G.2.2.2.1 200 t_letters), (g_o, z_o 0 [z_i q_g_rows, z_i q_g_columns, z_i q_g_cells, .ref g_Akind, .ref g_Abeside, .ref g_AbesideBits]), (g_Akind, z_a G.2.1 36 q_g_kind), (g_Abeside, z_a G.2.1 144 q_g_beside), (g_AbesideBits, z_l G.2.2.1 36 q_g_besideBits), (w_o, z_o 4 [.ref w_Aheight, .ref w_Adrops, z_i q_w_hours, .long w_restless]), (w_Aheight, z_a G.2.1 36 q_w_height), (w_Adrops, z_a G.2.1 36 q_w_drops)] ∧ z_n rr ∧ z_n q_t_at ∧ z_n q_g_rows ∧ z_n q_g_columns ∧ z_n q_g_cells ∧ z_r q_g_kind ∧ z_r q_g_beside ∧ z_r q_w_height ∧ z_r q_w_drops ∧ z_n q_w_hours ∧ True) := by
  unfold m_X3_readInto at hm
  refine z_M.intro (by decide +kernel) (Nat.le_of_ble_eq_true rfl) (L := [(0, .ref t_o), (1, .ref g_o), (2, .ref w_o)]) rfl (fun X C E => ?_)
  refine z_aload_n C dX3_readInto_0 1 rfl ?_
  obtain ⟨g_rows_1, g_columns_2, g_cells_3, g_kind_4, k5, hm⟩ := z_b4s hm
  refine z_callVv C (k_X0_makeOpen l G N g_o g_Akind g_Abeside g_AbesideBits g_rows g_columns g_cells g_kind g_beside g_besideBits h_g_rows h_g_columns h_g_cells h_g_kind h_g_beside g_rows_1 g_columns_2 g_cells_3 g_kind_4 k5) zv_X0_makeOpen zl_X3_22 dX3_readInto_1 [2, 3, 4, 5] rfl rfl rfl (ws' := [(t_o, z_o 3 [.ref t_Aletters, z_i t_length, z_i t_at]), (t_Aletters, z_a G.2.2.2.1 200 t_letters), (g_o, z_o 0 [z_i g_rows_1, z_i g_columns_2, z_i g_cells_3, .ref g_Akind, .ref g_Abeside, .ref g_AbesideBits]), (g_Akind, z_a G.2.1 36 g_kind_4), (g_Abeside, z_a G.2.1 144 g_beside), (g_AbesideBits, z_l G.2.2.1 36 g_besideBits), (w_o, z_o 4 [.ref w_Aheight, .ref w_Adrops, z_i w_hours, .long w_restless]), (w_Aheight, z_a G.2.1 36 w_height), (w_Adrops, z_a G.2.1 36 w_drops)]) rfl 2 rfl rfl rfl [] rfl (Nat.le_of_ble_eq_true rfl) ⟨Nat.le_of_ble_eq_true rfl, Nat.le_of_ble_eq_true rfl⟩ ⟨rfl, rfl⟩ ⟨Nat.zero_le _, Nat.zero_le _⟩ (fun hF => ?_)
  obtain ⟨h_g_rows_1, h_g_columns_2, h_g_cells_3, h_g_kind_4, -⟩ := hF
  refine z_aload_n C dX3_readInto_4 2 rfl ?_
  obtain ⟨w_height_6, w_drops_7, w_hours_8, k9, hm⟩ := z_b3s hm
  refine z_callVv C (k_X4_makeDry l G N w_o w_Aheight w_Adrops w_height w_drops w_hours w_restless h_w_height h_w_drops h_w_hours w_height_6 w_drops_7 w_hours_8 k9) zv_X4_makeDry zl_X3_27 dX3_readInto_5 [6, 7, 8] rfl rfl rfl (ws' := [(t_o, z_o 3 [.ref t_Aletters, z_i t_length, z_i t_at]), (t_Aletters, z_a G.2.2.2.1 200 t_letters), (g_o, z_o 0 [z_i g_rows_1, z_i g_columns_2, z_i g_cells_3, .ref g_Akind, .ref g_Abeside, .ref g_AbesideBits]), (g_Akind, z_a G.2.1 36 g_kind_4), (g_Abeside, z_a G.2.1 144 g_beside), (g_AbesideBits, z_l G.2.2.1 36 g_besideBits), (w_o, z_o 4 [.ref w_Aheight, .ref w_Adrops, z_i w_hours_8, .long w_restless]), (w_Aheight, z_a G.2.1 36 w_height_6), (w_Adrops, z_a G.2.1 36 w_drops_7)]) rfl 6 rfl rfl rfl [] rfl (Nat.le_of_ble_eq_true rfl) ⟨Nat.le_of_ble_eq_true rfl, Nat.le_of_ble_eq_true rfl⟩ ⟨rfl, rfl⟩ ⟨Nat.zero_le _, Nat.zero_le _⟩ (fun hF => ?_)
  obtain ⟨h_w_height_6, h_w_drops_7, h_w_hours_8, -⟩ := hF
  refine z_aload_n C dX3_readInto_8 0 rfl ?_
  refine z_iconst C dX3_readInto_9 ?_
  refine z_puti C zf_X3_19 dX3_readInto_10 0 rfl rfl (ws' := [(t_o, z_o 3 [.ref t_Aletters, z_i t_length, z_i 0]), (t_Aletters, z_a G.2.2.2.1 200 t_letters), (g_o, z_o 0 [z_i g_rows_1, z_i g_columns_2, z_i g_cells_3, .ref g_Akind, .ref g_Abeside, .ref g_AbesideBits]), (g_Akind, z_a G.2.1 36 g_kind_4), (g_Abeside, z_a G.2.1 144 g_beside), (g_AbesideBits, z_l G.2.2.1 36 g_besideBits), (w_o, z_o 4 [.ref w_Aheight, .ref w_Adrops, z_i w_hours_8, .long w_restless]), (w_Aheight, z_a G.2.1 36 w_height_6), (w_Adrops, z_a G.2.1 36 w_drops_7)]) rfl ?_
  refine z_iconst C dX3_readInto_13 ?_
  refine z_istore_n C dX3_readInto_14 (by decide) (L' := [(3, z_i 1), (0, .ref t_o), (1, .ref g_o), (2, .ref w_o)]) rfl ?_
  refine z_iconst C dX3_readInto_15 ?_
  refine z_istore C dX3_readInto_16 (by decide) (L' := [(4, z_i 0), (3, z_i 1), (0, .ref t_o), (1, .ref g_o), (2, .ref w_o)]) rfl ?_
  have L1 : ∀ (n1 : Nat) (v3_1 : Int) (v4_1 : Int) (t_at_1 : Int) (g_rows_1 : Int) (g_columns_1 : Int) (g_cells_1 : Int) (g_kind_1 : (Int → Int)) (w_height_1 : (Int → Int)) (w_drops_1 : (Int → Int)), z_n v3_1 → z_n v4_1 → z_n t_at_1 → z_n g_rows_1 → z_n g_columns_1 → z_n g_cells_1 → z_r g_kind_1 → z_r w_height_1 → z_r w_drops_1 → m_X3_readInto_l1 N t_length g_beside g_besideBits w_hours_8 t_letters n1 v3_1 v4_1 t_at_1 g_rows_1 g_columns_1 g_cells_1 g_kind_1 w_height_1 w_drops_1 = some (rr, q_t_at, q_g_rows, q_g_columns, q_g_cells, q_g_kind, q_g_beside, q_g_besideBits, q_w_height, q_w_drops, q_w_hours) → z_J X 0 0 ([(t_o, z_o 3 [.ref t_Aletters, z_i t_length, z_i t_at_1]), (t_Aletters, z_a G.2.2.2.1 200 t_letters), (g_o, z_o 0 [z_i g_rows_1, z_i g_columns_1, z_i g_cells_1, .ref g_Akind, .ref g_Abeside, .ref g_AbesideBits]), (g_Akind, z_a G.2.1 36 g_kind_1), (g_Abeside, z_a G.2.1 144 g_beside), (g_AbesideBits, z_l G.2.2.1 36 g_besideBits), (w_o, z_o 4 [.ref w_Aheight, .ref w_Adrops, z_i w_hours_8, .long w_restless]), (w_Aheight, z_a G.2.1 36 w_height_1), (w_Adrops, z_a G.2.1 36 w_drops_1)]) [(0, .ref t_o), (1, .ref g_o), (2, .ref w_o), (3, z_i v3_1), (4, z_i v4_1)] 18 [] := by
    clear hm
    intro n1
    induction n1 with
    | zero =>
      intro v3_1 v4_1 t_at_1 g_rows_1 g_columns_1 g_cells_1 g_kind_1 w_height_1 w_drops_1 h_v3_1 h_v4_1 h_t_at_1 h_g_rows_1 h_g_columns_1 h_g_cells_1 h_g_kind_1 h_w_height_1 h_w_drops_1 hm
      rw [m_X3_readInto_l1] at hm
      cases hm
    | succ n1 ih1 =>
      intro v3_1 v4_1 t_at_1 g_rows_1 g_columns_1 g_cells_1 g_kind_1 w_height_1 w_drops_1 h_v3_1 h_v4_1 h_t_at_1 h_g_rows_1 h_g_columns_1 h_g_cells_1 h_g_kind_1 h_w_height_1 h_w_drops_1 hm
      rw [m_X3_readInto_l1] at hm
      refine z_aload_n C dX3_readInto_18 0 rfl ?_
      refine z_get C zf_X3_19 dX3_readInto_19 0 rfl rfl ?_
      refine z_aload_n C dX3_readInto_22 0 rfl ?_
      refine z_get C zf_X3_15 dX3_readInto_23 0 rfl rfl ?_
      refine z_icmp_ge (tgt := 175) C h_t_at_1 h_t_length dX3_readInto_26 (by decide) (fun c10 => ?_) (fun c10 => ?_)
      · have hm := z_pos c10 hm
        refine z_aload_n C dX3_readInto_175 1 rfl ?_
        refine z_aload_n C dX3_readInto_176 2 rfl ?_
        obtain ⟨g_beside_11, g_besideBits_12, w_drops_13, k14, hm⟩ := z_b3s hm
        refine z_callSv C (k_X3_finish l G N g_o g_Akind g_Abeside g_AbesideBits w_o w_Aheight w_Adrops g_rows_1 g_columns_1 g_cells_1 g_kind_1 g_beside g_besideBits w_height_1 w_drops_1 w_hours_8 w_restless h_g_rows_1 h_g_columns_1 h_g_cells_1 h_g_kind_1 h_g_beside h_w_height_1 h_w_drops_1 h_w_hours_8 g_beside_11 g_besideBits_12 w_drops_13 k14) zs_X3_finish zl_X3_51 dX3_readInto_177 [2, 3, 4, 5, 6, 7, 8] rfl rfl rfl (ws' := [(t_o, z_o 3 [.ref t_Aletters, z_i t_length, z_i t_at_1]), (t_Aletters, z_a G.2.2.2.1 200 t_letters), (g_o, z_o 0 [z_i g_rows_1, z_i g_columns_1, z_i g_cells_1, .ref g_Akind, .ref g_Abeside, .ref g_AbesideBits]), (g_Akind, z_a G.2.1 36 g_kind_1), (g_Abeside, z_a G.2.1 144 g_beside_11), (g_AbesideBits, z_l G.2.2.1 36 g_besideBits_12), (w_o, z_o 4 [.ref w_Aheight, .ref w_Adrops, z_i w_hours_8, .long w_restless]), (w_Aheight, z_a G.2.1 36 w_height_1), (w_Adrops, z_a G.2.1 36 w_drops_13)]) rfl rfl [] rfl (Nat.le_of_ble_eq_true rfl) ⟨Nat.le_of_ble_eq_true rfl, Nat.le_of_ble_eq_true rfl⟩ ⟨rfl, rfl⟩ ⟨Nat.zero_le _, Nat.zero_le _⟩ (fun hF => ?_)
        obtain ⟨h_g_beside_11, h_w_drops_13, -⟩ := hF
        refine z_bipush C dX3_readInto_180 (by decide) ?_
        cases hm
        exact z_iret C E dX3_readInto_182 ⟨rfl, rfl, (z_k (-4) rfl), h_t_at_1, h_g_rows_1, h_g_columns_1, h_g_cells_1, h_g_kind_1, h_g_beside_11, h_w_height_1, h_w_drops_13, h_w_hours_8, trivial⟩
      · have hm := z_neg c10 hm
        refine z_iload C dX3_readInto_29 4 rfl ?_
        refine z_sipush C dX3_readInto_31 (by decide) ?_
        refine z_icmp_ge (tgt := 175) C h_v4_1 (z_k 200 rfl) dX3_readInto_34 (by decide) (fun c15 => ?_) (fun c15 => ?_)
        · have hm := z_pos c15 hm
          refine z_aload_n C dX3_readInto_175 1 rfl ?_
          refine z_aload_n C dX3_readInto_176 2 rfl ?_
          obtain ⟨g_beside_16, g_besideBits_17, w_drops_18, k19, hm⟩ := z_b3s hm
          refine z_callSv C (k_X3_finish l G N g_o g_Akind g_Abeside g_AbesideBits w_o w_Aheight w_Adrops g_rows_1 g_columns_1 g_cells_1 g_kind_1 g_beside g_besideBits w_height_1 w_drops_1 w_hours_8 w_restless h_g_rows_1 h_g_columns_1 h_g_cells_1 h_g_kind_1 h_g_beside h_w_height_1 h_w_drops_1 h_w_hours_8 g_beside_16 g_besideBits_17 w_drops_18 k19) zs_X3_finish zl_X3_51 dX3_readInto_177 [2, 3, 4, 5, 6, 7, 8] rfl rfl rfl (ws' := [(t_o, z_o 3 [.ref t_Aletters, z_i t_length, z_i t_at_1]), (t_Aletters, z_a G.2.2.2.1 200 t_letters), (g_o, z_o 0 [z_i g_rows_1, z_i g_columns_1, z_i g_cells_1, .ref g_Akind, .ref g_Abeside, .ref g_AbesideBits]), (g_Akind, z_a G.2.1 36 g_kind_1), (g_Abeside, z_a G.2.1 144 g_beside_16), (g_AbesideBits, z_l G.2.2.1 36 g_besideBits_17), (w_o, z_o 4 [.ref w_Aheight, .ref w_Adrops, z_i w_hours_8, .long w_restless]), (w_Aheight, z_a G.2.1 36 w_height_1), (w_Adrops, z_a G.2.1 36 w_drops_18)]) rfl rfl [] rfl (Nat.le_of_ble_eq_true rfl) ⟨Nat.le_of_ble_eq_true rfl, Nat.le_of_ble_eq_true rfl⟩ ⟨rfl, rfl⟩ ⟨Nat.zero_le _, Nat.zero_le _⟩ (fun hF => ?_)
          obtain ⟨h_g_beside_16, h_w_drops_18, -⟩ := hF
          refine z_bipush C dX3_readInto_180 (by decide) ?_
          cases hm
          exact z_iret C E dX3_readInto_182 ⟨rfl, rfl, (z_k (-4) rfl), h_t_at_1, h_g_rows_1, h_g_columns_1, h_g_cells_1, h_g_kind_1, h_g_beside_16, h_w_height_1, h_w_drops_18, h_w_hours_8, trivial⟩
        · have hm := z_neg c15 hm
          refine z_aload_n C dX3_readInto_37 0 rfl ?_
          refine z_get C zf_X3_19 dX3_readInto_38 0 rfl rfl ?_
          refine z_istore C dX3_readInto_41 (by decide) (L' := [(5, z_i t_at_1), (0, .ref t_o), (1, .ref g_o), (2, .ref w_o), (3, z_i v3_1), (4, z_i v4_1)]) rfl ?_
          refine z_aload_n C dX3_readInto_43 1 rfl ?_
          obtain ⟨r20, t_at_21, k22, hm⟩ := z_b2s hm
          refine z_callVi C (k_X3_nextLetter l G N t_o t_Aletters t_letters t_length t_at_1 h_t_letters h_t_length h_t_at_1 r20 t_at_21 k22) zv_X3_nextLetter zl_X3_32 dX3_readInto_44 [0, 1] rfl rfl rfl (ws' := [(t_o, z_o 3 [.ref t_Aletters, z_i t_length, z_i t_at_21]), (t_Aletters, z_a G.2.2.2.1 200 t_letters), (g_o, z_o 0 [z_i g_rows_1, z_i g_columns_1, z_i g_cells_1, .ref g_Akind, .ref g_Abeside, .ref g_AbesideBits]), (g_Akind, z_a G.2.1 36 g_kind_1), (g_Abeside, z_a G.2.1 144 g_beside), (g_AbesideBits, z_l G.2.2.1 36 g_besideBits), (w_o, z_o 4 [.ref w_Aheight, .ref w_Adrops, z_i w_hours_8, .long w_restless]), (w_Aheight, z_a G.2.1 36 w_height_1), (w_Adrops, z_a G.2.1 36 w_drops_1)]) rfl 0 rfl rfl rfl [] rfl (Nat.le_of_ble_eq_true rfl) ⟨Nat.le_of_ble_eq_true rfl, Nat.le_of_ble_eq_true rfl⟩ ⟨rfl, rfl⟩ ⟨Nat.zero_le _, Nat.zero_le _⟩ (fun hF => ?_)
          obtain ⟨h_r20, h_t_at_21, -⟩ := hF
          refine z_istore C dX3_readInto_47 (by decide) (L' := [(6, z_i r20), (5, z_i t_at_1), (0, .ref t_o), (1, .ref g_o), (2, .ref w_o), (3, z_i v3_1), (4, z_i v4_1)]) rfl ?_
          refine z_aload_n C dX3_readInto_49 2 rfl ?_
          obtain ⟨r23, t_at_24, k25, hm⟩ := z_b2s hm
          refine z_callVi C (k_X3_nextNumber l G N t_o t_Aletters t_letters t_length t_at_21 h_t_letters h_t_length h_t_at_21 r23 t_at_24 k25) zv_X3_nextNumber zl_X3_36 dX3_readInto_50 [0, 1] rfl rfl rfl (ws' := [(t_o, z_o 3 [.ref t_Aletters, z_i t_length, z_i t_at_24]), (t_Aletters, z_a G.2.2.2.1 200 t_letters), (g_o, z_o 0 [z_i g_rows_1, z_i g_columns_1, z_i g_cells_1, .ref g_Akind, .ref g_Abeside, .ref g_AbesideBits]), (g_Akind, z_a G.2.1 36 g_kind_1), (g_Abeside, z_a G.2.1 144 g_beside), (g_AbesideBits, z_l G.2.2.1 36 g_besideBits), (w_o, z_o 4 [.ref w_Aheight, .ref w_Adrops, z_i w_hours_8, .long w_restless]), (w_Aheight, z_a G.2.1 36 w_height_1), (w_Adrops, z_a G.2.1 36 w_drops_1)]) rfl 0 rfl rfl rfl [] rfl (Nat.le_of_ble_eq_true rfl) ⟨Nat.le_of_ble_eq_true rfl, Nat.le_of_ble_eq_true rfl⟩ ⟨rfl, rfl⟩ ⟨Nat.zero_le _, Nat.zero_le _⟩ (fun hF => ?_)
          obtain ⟨h_r23, h_t_at_24, -⟩ := hF
          refine z_istore C dX3_readInto_53 (by decide) (L' := [(7, z_i r23), (6, z_i r20), (5, z_i t_at_1), (0, .ref t_o), (1, .ref g_o), (2, .ref w_o), (3, z_i v3_1), (4, z_i v4_1)]) rfl ?_
          refine z_aload_n C dX3_readInto_55 3 rfl ?_
          refine z_bipush C dX3_readInto_56 (by decide) ?_
          obtain ⟨r26, t_at_27, k28, hm⟩ := z_b2s hm
          refine z_callVi C (k_X3_skip l G N t_o t_Aletters t_letters t_length t_at_24 44 h_t_letters h_t_length h_t_at_24 (z_k 44 rfl) r26 t_at_27 k28) zv_X3_skip zl_X3_39 dX3_readInto_58 [0, 1] rfl rfl rfl (ws' := [(t_o, z_o 3 [.ref t_Aletters, z_i t_length, z_i t_at_27]), (t_Aletters, z_a G.2.2.2.1 200 t_letters), (g_o, z_o 0 [z_i g_rows_1, z_i g_columns_1, z_i g_cells_1, .ref g_Akind, .ref g_Abeside, .ref g_AbesideBits]), (g_Akind, z_a G.2.1 36 g_kind_1), (g_Abeside, z_a G.2.1 144 g_beside), (g_AbesideBits, z_l G.2.2.1 36 g_besideBits), (w_o, z_o 4 [.ref w_Aheight, .ref w_Adrops, z_i w_hours_8, .long w_restless]), (w_Aheight, z_a G.2.1 36 w_height_1), (w_Adrops, z_a G.2.1 36 w_drops_1)]) rfl 0 rfl rfl rfl [] rfl (Nat.le_of_ble_eq_true rfl) ⟨Nat.le_of_ble_eq_true rfl, Nat.le_of_ble_eq_true rfl⟩ ⟨rfl, rfl⟩ ⟨Nat.zero_le _, Nat.zero_le _⟩ (fun hF => ?_)
          obtain ⟨hb_r26, h_t_at_27, -⟩ := hF
          refine z_istore C dX3_readInto_61 (by decide) (L' := [(8, z_i r26), (7, z_i r23), (6, z_i r20), (5, z_i t_at_1), (0, .ref t_o), (1, .ref g_o), (2, .ref w_o), (3, z_i v3_1), (4, z_i v4_1)]) rfl ?_
          refine z_aload_n C dX3_readInto_63 4 rfl ?_
          obtain ⟨r29, t_at_30, k31, hm⟩ := z_b2s hm
          refine z_callVi C (k_X3_nextNumber l G N t_o t_Aletters t_letters t_length t_at_27 h_t_letters h_t_length h_t_at_27 r29 t_at_30 k31) zv_X3_nextNumber zl_X3_36 dX3_readInto_64 [0, 1] rfl rfl rfl (ws' := [(t_o, z_o 3 [.ref t_Aletters, z_i t_length, z_i t_at_30]), (t_Aletters, z_a G.2.2.2.1 200 t_letters), (g_o, z_o 0 [z_i g_rows_1, z_i g_columns_1, z_i g_cells_1, .ref g_Akind, .ref g_Abeside, .ref g_AbesideBits]), (g_Akind, z_a G.2.1 36 g_kind_1), (g_Abeside, z_a G.2.1 144 g_beside), (g_AbesideBits, z_l G.2.2.1 36 g_besideBits), (w_o, z_o 4 [.ref w_Aheight, .ref w_Adrops, z_i w_hours_8, .long w_restless]), (w_Aheight, z_a G.2.1 36 w_height_1), (w_Adrops, z_a G.2.1 36 w_drops_1)]) rfl 0 rfl rfl rfl [] rfl (Nat.le_of_ble_eq_true rfl) ⟨Nat.le_of_ble_eq_true rfl, Nat.le_of_ble_eq_true rfl⟩ ⟨rfl, rfl⟩ ⟨Nat.zero_le _, Nat.zero_le _⟩ (fun hF => ?_)
          obtain ⟨h_r29, h_t_at_30, -⟩ := hF
          refine z_istore C dX3_readInto_67 (by decide) (L' := [(9, z_i r29), (8, z_i r26), (7, z_i r23), (6, z_i r20), (5, z_i t_at_1), (0, .ref t_o), (1, .ref g_o), (2, .ref w_o), (3, z_i v3_1), (4, z_i v4_1)]) rfl ?_
          refine z_aload_n C dX3_readInto_69 5 rfl ?_
          refine z_bipush C dX3_readInto_70 (by decide) ?_
          obtain ⟨r32, t_at_33, k34, hm⟩ := z_b2s hm
          refine z_callVi C (k_X3_skip l G N t_o t_Aletters t_letters t_length t_at_30 59 h_t_letters h_t_length h_t_at_30 (z_k 59 rfl) r32 t_at_33 k34) zv_X3_skip zl_X3_39 dX3_readInto_72 [0, 1] rfl rfl rfl (ws' := [(t_o, z_o 3 [.ref t_Aletters, z_i t_length, z_i t_at_33]), (t_Aletters, z_a G.2.2.2.1 200 t_letters), (g_o, z_o 0 [z_i g_rows_1, z_i g_columns_1, z_i g_cells_1, .ref g_Akind, .ref g_Abeside, .ref g_AbesideBits]), (g_Akind, z_a G.2.1 36 g_kind_1), (g_Abeside, z_a G.2.1 144 g_beside), (g_AbesideBits, z_l G.2.2.1 36 g_besideBits), (w_o, z_o 4 [.ref w_Aheight, .ref w_Adrops, z_i w_hours_8, .long w_restless]), (w_Aheight, z_a G.2.1 36 w_height_1), (w_Adrops, z_a G.2.1 36 w_drops_1)]) rfl 0 rfl rfl rfl [] rfl (Nat.le_of_ble_eq_true rfl) ⟨Nat.le_of_ble_eq_true rfl, Nat.le_of_ble_eq_true rfl⟩ ⟨rfl, rfl⟩ ⟨Nat.zero_le _, Nat.zero_le _⟩ (fun hF => ?_)
          obtain ⟨hb_r32, h_t_at_33, -⟩ := hF
          refine z_istore C dX3_readInto_75 (by decide) (L' := [(10, z_i r32), (9, z_i r29), (8, z_i r26), (7, z_i r23), (6, z_i r20), (5, z_i t_at_1), (0, .ref t_o), (1, .ref g_o), (2, .ref w_o), (3, z_i v3_1), (4, z_i v4_1)]) rfl ?_
          refine z_iload C dX3_readInto_77 3 rfl ?_
          refine z_if_lt (tgt := 97) C h_r23 dX3_readInto_79 (by decide) (fun c35 => ?_) (fun c35 => ?_)
          · have hm := z_pos c35 hm
            refine z_iload C dX3_readInto_97 5 rfl ?_
            cases hm
            exact z_iret C E dX3_readInto_99 ⟨rfl, rfl, h_t_at_1, h_t_at_33, h_g_rows_1, h_g_columns_1, h_g_cells_1, h_g_kind_1, h_g_beside, h_w_height_1, h_w_drops_1, h_w_hours_8, trivial⟩
          · have hm := z_neg c35 hm
            refine z_iload C dX3_readInto_82 2 rfl ?_
            refine z_if_eq (tgt := 97) C (z_n01 hb_r26) dX3_readInto_84 (by decide) (fun c36 => ?_) (fun c36 => ?_)
            · have hm := z_pos c36 hm
              refine z_iload C dX3_readInto_97 5 rfl ?_
              cases hm
              exact z_iret C E dX3_readInto_99 ⟨rfl, rfl, h_t_at_1, h_t_at_33, h_g_rows_1, h_g_columns_1, h_g_cells_1, h_g_kind_1, h_g_beside, h_w_height_1, h_w_drops_1, h_w_hours_8, trivial⟩
            · have hm := z_neg c36 hm
              refine z_iload C dX3_readInto_87 1 rfl ?_
              refine z_if_lt (tgt := 97) C h_r29 dX3_readInto_89 (by decide) (fun c37 => ?_) (fun c37 => ?_)
              · have hm := z_pos c37 hm
                refine z_iload C dX3_readInto_97 5 rfl ?_
                cases hm
                exact z_iret C E dX3_readInto_99 ⟨rfl, rfl, h_t_at_1, h_t_at_33, h_g_rows_1, h_g_columns_1, h_g_cells_1, h_g_kind_1, h_g_beside, h_w_height_1, h_w_drops_1, h_w_hours_8, trivial⟩
              · have hm := z_neg c37 hm
                refine z_iload C dX3_readInto_92 0 rfl ?_
                refine z_if_ne (tgt := 100) C (z_n01 hb_r32) dX3_readInto_94 (by decide) (fun c38 => ?_) (fun c38 => ?_)
                · have hm := z_pos c38 hm
                  refine z_iload C dX3_readInto_100 4 rfl ?_
                  refine z_bipush C dX3_readInto_102 (by decide) ?_
                  refine z_icmp_ne (tgt := 114) C h_r20 (z_k 115 rfl) dX3_readInto_104 (by decide) (fun c39 => ?_) (fun c39 => ?_)
                  · have hm := z_pos c39 hm
                    refine z_aload_n C dX3_readInto_114 7 rfl ?_
                    refine z_aload_n C dX3_readInto_115 8 rfl ?_
                    refine z_iload C dX3_readInto_116 4 rfl ?_
                    refine z_iload C dX3_readInto_118 3 rfl ?_
                    refine z_iload C dX3_readInto_120 1 rfl ?_
                    obtain ⟨r40, g_kind_41, w_height_42, w_drops_43, k44, hm⟩ := z_b4s hm
                    refine z_callSi C (k_X3_tellCell l G N g_o g_Akind g_Abeside g_AbesideBits w_o w_Aheight w_Adrops g_rows_1 g_columns_1 g_cells_1 g_kind_1 g_beside g_besideBits w_height_1 w_drops_1 w_hours_8 w_restless r20 r23 r29 h_g_rows_1 h_g_columns_1 h_g_cells_1 h_g_kind_1 h_g_beside h_w_height_1 h_w_drops_1 h_w_hours_8 h_r20 h_r23 h_r29 r40 g_kind_41 w_height_42 w_drops_43 k44) zs_X3_tellCell zl_X3_43 dX3_readInto_122 [2, 3, 4, 5, 6, 7, 8] rfl rfl rfl (ws' := [(t_o, z_o 3 [.ref t_Aletters, z_i t_length, z_i t_at_33]), (t_Aletters, z_a G.2.2.2.1 200 t_letters), (g_o, z_o 0 [z_i g_rows_1, z_i g_columns_1, z_i g_cells_1, .ref g_Akind, .ref g_Abeside, .ref g_AbesideBits]), (g_Akind, z_a G.2.1 36 g_kind_41), (g_Abeside, z_a G.2.1 144 g_beside), (g_AbesideBits, z_l G.2.2.1 36 g_besideBits), (w_o, z_o 4 [.ref w_Aheight, .ref w_Adrops, z_i w_hours_8, .long w_restless]), (w_Aheight, z_a G.2.1 36 w_height_42), (w_Adrops, z_a G.2.1 36 w_drops_43)]) rfl rfl [] rfl (Nat.le_of_ble_eq_true rfl) ⟨Nat.le_of_ble_eq_true rfl, Nat.le_of_ble_eq_true rfl⟩ ⟨rfl, rfl⟩ ⟨Nat.zero_le _, Nat.zero_le _⟩ (fun hF => ?_)
                    obtain ⟨hb_r40, h_g_kind_41, h_w_height_42, h_w_drops_43, -⟩ := hF
                    refine z_if_ne (tgt := 131) C (z_n01 hb_r40) dX3_readInto_125 (by decide) (fun c45 => ?_) (fun c45 => ?_)
                    · have hm := z_pos c45 hm
                      refine z_iload C dX3_readInto_131 4 rfl ?_
                      refine z_bipush C dX3_readInto_133 (by decide) ?_
                      refine z_icmp_ne (tgt := 152) C h_r20 (z_k 115 rfl) dX3_readInto_135 (by decide) (fun c46 => ?_) (fun c46 => ?_)
                      · have hm := z_pos c46 hm
                        refine z_iload_n C dX3_readInto_152 9 rfl ?_
                        refine z_if_eq (tgt := 167) C h_v3_1 dX3_readInto_153 (by decide) (fun c47 => ?_) (fun c47 => ?_)
                        · have hm := z_pos c47 hm
                          refine z_iconst C dX3_readInto_167 ?_
                          refine z_istore_n C dX3_readInto_168 (by decide) (L' := [(3, z_i 0), (10, z_i r32), (9, z_i r29), (8, z_i r26), (7, z_i r23), (6, z_i r20), (5, z_i t_at_1), (0, .ref t_o), (1, .ref g_o), (2, .ref w_o), (4, z_i v4_1)]) rfl ?_
                          obtain ⟨c48, hm⟩ := z_chk_some hm
                          refine z_iinc C dX3_readInto_169 10 rfl (by decide) (L' := [(4, z_i (v4_1 + 1)), (3, z_i 0), (10, z_i r32), (9, z_i r29), (8, z_i r26), (7, z_i r23), (6, z_i r20), (5, z_i t_at_1), (0, .ref t_o), (1, .ref g_o), (2, .ref w_o)]) rfl ?_
                          refine z_goto (tgt := 18) C dX3_readInto_172 (by decide) ?_
                          refine z_sub (L' := [(0, .ref t_o), (1, .ref g_o), (2, .ref w_o), (3, z_i 0), (4, z_i (v4_1 + 1))]) [8, 9, 10, 1, 0] rfl ?_
                          exact ih1 0 (v4_1 + 1) t_at_33 g_rows_1 g_columns_1 g_cells_1 g_kind_41 w_height_42 w_drops_43 (z_k 0 rfl) c48 h_t_at_33 h_g_rows_1 h_g_columns_1 h_g_cells_1 h_g_kind_41 h_w_height_42 h_w_drops_43 hm
                        · have hm := z_neg c47 hm
                          refine z_iload C dX3_readInto_156 4 rfl ?_
                          refine z_bipush C dX3_readInto_158 (by decide) ?_
                          refine z_icmp_ne (tgt := 167) C h_r20 (z_k 115 rfl) dX3_readInto_160 (by decide) (fun c49 => ?_) (fun c49 => ?_)
                          · have hm := z_pos c49 hm
                            refine z_iconst C dX3_readInto_167 ?_
                            refine z_istore_n C dX3_readInto_168 (by decide) (L' := [(3, z_i 0), (10, z_i r32), (9, z_i r29), (8, z_i r26), (7, z_i r23), (6, z_i r20), (5, z_i t_at_1), (0, .ref t_o), (1, .ref g_o), (2, .ref w_o), (4, z_i v4_1)]) rfl ?_
                            obtain ⟨c50, hm⟩ := z_chk_some hm
                            refine z_iinc C dX3_readInto_169 10 rfl (by decide) (L' := [(4, z_i (v4_1 + 1)), (3, z_i 0), (10, z_i r32), (9, z_i r29), (8, z_i r26), (7, z_i r23), (6, z_i r20), (5, z_i t_at_1), (0, .ref t_o), (1, .ref g_o), (2, .ref w_o)]) rfl ?_
                            refine z_goto (tgt := 18) C dX3_readInto_172 (by decide) ?_
                            refine z_sub (L' := [(0, .ref t_o), (1, .ref g_o), (2, .ref w_o), (3, z_i 0), (4, z_i (v4_1 + 1))]) [8, 9, 10, 1, 0] rfl ?_
                            exact ih1 0 (v4_1 + 1) t_at_33 g_rows_1 g_columns_1 g_cells_1 g_kind_41 w_height_42 w_drops_43 (z_k 0 rfl) c50 h_t_at_33 h_g_rows_1 h_g_columns_1 h_g_cells_1 h_g_kind_41 h_w_height_42 h_w_drops_43 hm
                          · have hm := z_neg c49 hm
                            refine z_iconst C dX3_readInto_163 ?_
                            refine z_goto (tgt := 168) C dX3_readInto_164 (by decide) ?_
                            refine z_istore_n C dX3_readInto_168 (by decide) (L' := [(3, z_i 1), (10, z_i r32), (9, z_i r29), (8, z_i r26), (7, z_i r23), (6, z_i r20), (5, z_i t_at_1), (0, .ref t_o), (1, .ref g_o), (2, .ref w_o), (4, z_i v4_1)]) rfl ?_
                            obtain ⟨c51, hm⟩ := z_chk_some hm
                            refine z_iinc C dX3_readInto_169 10 rfl (by decide) (L' := [(4, z_i (v4_1 + 1)), (3, z_i 1), (10, z_i r32), (9, z_i r29), (8, z_i r26), (7, z_i r23), (6, z_i r20), (5, z_i t_at_1), (0, .ref t_o), (1, .ref g_o), (2, .ref w_o)]) rfl ?_
                            refine z_goto (tgt := 18) C dX3_readInto_172 (by decide) ?_
                            refine z_sub (L' := [(0, .ref t_o), (1, .ref g_o), (2, .ref w_o), (3, z_i 1), (4, z_i (v4_1 + 1))]) [8, 9, 10, 1, 0] rfl ?_
                            exact ih1 1 (v4_1 + 1) t_at_33 g_rows_1 g_columns_1 g_cells_1 g_kind_41 w_height_42 w_drops_43 (z_k 1 rfl) c51 h_t_at_33 h_g_rows_1 h_g_columns_1 h_g_cells_1 h_g_kind_41 h_w_height_42 h_w_drops_43 hm
                      · have hm := z_neg c46 hm
                        refine z_aload_n C dX3_readInto_138 7 rfl ?_
                        refine z_iload C dX3_readInto_139 3 rfl ?_
                        refine z_iload C dX3_readInto_141 1 rfl ?_
                        obtain ⟨r52, g_rows_53, g_columns_54, g_cells_55, k56, hm⟩ := z_b4s hm
                        refine z_callVi C (k_X0_shape l G N g_o g_Akind g_Abeside g_AbesideBits g_rows_1 g_columns_1 g_cells_1 g_kind_41 g_beside g_besideBits r23 r29 h_g_rows_1 h_g_columns_1 h_g_cells_1 h_g_kind_41 h_g_beside h_r23 h_r29 r52 g_rows_53 g_columns_54 g_cells_55 k56) zv_X0_shape zl_X3_47 dX3_readInto_143 [2, 3, 4, 5] rfl rfl rfl (ws' := [(t_o, z_o 3 [.ref t_Aletters, z_i t_length, z_i t_at_33]), (t_Aletters, z_a G.2.2.2.1 200 t_letters), (g_o, z_o 0 [z_i g_rows_53, z_i g_columns_54, z_i g_cells_55, .ref g_Akind, .ref g_Abeside, .ref g_AbesideBits]), (g_Akind, z_a G.2.1 36 g_kind_41), (g_Abeside, z_a G.2.1 144 g_beside), (g_AbesideBits, z_l G.2.2.1 36 g_besideBits), (w_o, z_o 4 [.ref w_Aheight, .ref w_Adrops, z_i w_hours_8, .long w_restless]), (w_Aheight, z_a G.2.1 36 w_height_42), (w_Adrops, z_a G.2.1 36 w_drops_43)]) rfl 2 rfl rfl rfl [] rfl (Nat.le_of_ble_eq_true rfl) ⟨Nat.le_of_ble_eq_true rfl, Nat.le_of_ble_eq_true rfl⟩ ⟨rfl, rfl⟩ ⟨Nat.zero_le _, Nat.zero_le _⟩ (fun hF => ?_)
                        obtain ⟨hb_r52, h_g_rows_53, h_g_columns_54, h_g_cells_55, -⟩ := hF
                        refine z_if_ne (tgt := 152) C (z_n01 hb_r52) dX3_readInto_146 (by decide) (fun c57 => ?_) (fun c57 => ?_)
                        · have hm := z_pos c57 hm
                          refine z_iload_n C dX3_readInto_152 9 rfl ?_
                          refine z_if_eq (tgt := 167) C h_v3_1 dX3_readInto_153 (by decide) (fun c58 => ?_) (fun c58 => ?_)
                          · have hm := z_pos c58 hm
                            refine z_iconst C dX3_readInto_167 ?_
                            refine z_istore_n C dX3_readInto_168 (by decide) (L' := [(3, z_i 0), (10, z_i r32), (9, z_i r29), (8, z_i r26), (7, z_i r23), (6, z_i r20), (5, z_i t_at_1), (0, .ref t_o), (1, .ref g_o), (2, .ref w_o), (4, z_i v4_1)]) rfl ?_
                            obtain ⟨c59, hm⟩ := z_chk_some hm
                            refine z_iinc C dX3_readInto_169 10 rfl (by decide) (L' := [(4, z_i (v4_1 + 1)), (3, z_i 0), (10, z_i r32), (9, z_i r29), (8, z_i r26), (7, z_i r23), (6, z_i r20), (5, z_i t_at_1), (0, .ref t_o), (1, .ref g_o), (2, .ref w_o)]) rfl ?_
                            refine z_goto (tgt := 18) C dX3_readInto_172 (by decide) ?_
                            refine z_sub (L' := [(0, .ref t_o), (1, .ref g_o), (2, .ref w_o), (3, z_i 0), (4, z_i (v4_1 + 1))]) [8, 9, 10, 1, 0] rfl ?_
                            exact ih1 0 (v4_1 + 1) t_at_33 g_rows_53 g_columns_54 g_cells_55 g_kind_41 w_height_42 w_drops_43 (z_k 0 rfl) c59 h_t_at_33 h_g_rows_53 h_g_columns_54 h_g_cells_55 h_g_kind_41 h_w_height_42 h_w_drops_43 hm
                          · have hm := z_neg c58 hm
                            refine z_iload C dX3_readInto_156 4 rfl ?_
                            refine z_bipush C dX3_readInto_158 (by decide) ?_
                            refine z_icmp_ne (tgt := 167) C h_r20 (z_k 115 rfl) dX3_readInto_160 (by decide) (fun c60 => ?_) (fun c60 => ?_)
                            · have hm := z_pos c60 hm
                              refine z_iconst C dX3_readInto_167 ?_
                              refine z_istore_n C dX3_readInto_168 (by decide) (L' := [(3, z_i 0), (10, z_i r32), (9, z_i r29), (8, z_i r26), (7, z_i r23), (6, z_i r20), (5, z_i t_at_1), (0, .ref t_o), (1, .ref g_o), (2, .ref w_o), (4, z_i v4_1)]) rfl ?_
                              obtain ⟨c61, hm⟩ := z_chk_some hm
                              refine z_iinc C dX3_readInto_169 10 rfl (by decide) (L' := [(4, z_i (v4_1 + 1)), (3, z_i 0), (10, z_i r32), (9, z_i r29), (8, z_i r26), (7, z_i r23), (6, z_i r20), (5, z_i t_at_1), (0, .ref t_o), (1, .ref g_o), (2, .ref w_o)]) rfl ?_
                              refine z_goto (tgt := 18) C dX3_readInto_172 (by decide) ?_
                              refine z_sub (L' := [(0, .ref t_o), (1, .ref g_o), (2, .ref w_o), (3, z_i 0), (4, z_i (v4_1 + 1))]) [8, 9, 10, 1, 0] rfl ?_
                              exact ih1 0 (v4_1 + 1) t_at_33 g_rows_53 g_columns_54 g_cells_55 g_kind_41 w_height_42 w_drops_43 (z_k 0 rfl) c61 h_t_at_33 h_g_rows_53 h_g_columns_54 h_g_cells_55 h_g_kind_41 h_w_height_42 h_w_drops_43 hm
                            · have hm := z_neg c60 hm
                              refine z_iconst C dX3_readInto_163 ?_
                              refine z_goto (tgt := 168) C dX3_readInto_164 (by decide) ?_
                              refine z_istore_n C dX3_readInto_168 (by decide) (L' := [(3, z_i 1), (10, z_i r32), (9, z_i r29), (8, z_i r26), (7, z_i r23), (6, z_i r20), (5, z_i t_at_1), (0, .ref t_o), (1, .ref g_o), (2, .ref w_o), (4, z_i v4_1)]) rfl ?_
                              obtain ⟨c62, hm⟩ := z_chk_some hm
                              refine z_iinc C dX3_readInto_169 10 rfl (by decide) (L' := [(4, z_i (v4_1 + 1)), (3, z_i 1), (10, z_i r32), (9, z_i r29), (8, z_i r26), (7, z_i r23), (6, z_i r20), (5, z_i t_at_1), (0, .ref t_o), (1, .ref g_o), (2, .ref w_o)]) rfl ?_
                              refine z_goto (tgt := 18) C dX3_readInto_172 (by decide) ?_
                              refine z_sub (L' := [(0, .ref t_o), (1, .ref g_o), (2, .ref w_o), (3, z_i 1), (4, z_i (v4_1 + 1))]) [8, 9, 10, 1, 0] rfl ?_
                              exact ih1 1 (v4_1 + 1) t_at_33 g_rows_53 g_columns_54 g_cells_55 g_kind_41 w_height_42 w_drops_43 (z_k 1 rfl) c62 h_t_at_33 h_g_rows_53 h_g_columns_54 h_g_cells_55 h_g_kind_41 h_w_height_42 h_w_drops_43 hm
                        · have hm := z_neg c57 hm
                          refine z_iload C dX3_readInto_149 5 rfl ?_
                          cases hm
                          exact z_iret C E dX3_readInto_151 ⟨rfl, rfl, h_t_at_1, h_t_at_33, h_g_rows_53, h_g_columns_54, h_g_cells_55, h_g_kind_41, h_g_beside, h_w_height_42, h_w_drops_43, h_w_hours_8, trivial⟩
                    · have hm := z_neg c45 hm
                      refine z_iload C dX3_readInto_128 5 rfl ?_
                      cases hm
                      exact z_iret C E dX3_readInto_130 ⟨rfl, rfl, h_t_at_1, h_t_at_33, h_g_rows_1, h_g_columns_1, h_g_cells_1, h_g_kind_41, h_g_beside, h_w_height_42, h_w_drops_43, h_w_hours_8, trivial⟩
                  · have hm := z_neg c39 hm
                    refine z_iload_n C dX3_readInto_107 9 rfl ?_
                    refine z_if_ne (tgt := 131) C h_v3_1 dX3_readInto_108 (by decide) (fun c63 => ?_) (fun c63 => ?_)
                    · have hm := z_pos c63 hm
                      refine z_iload C dX3_readInto_131 4 rfl ?_
                      refine z_bipush C dX3_readInto_133 (by decide) ?_
                      refine z_icmp_ne (tgt := 152) C h_r20 (z_k 115 rfl) dX3_readInto_135 (by decide) (fun c64 => ?_) (fun c64 => ?_)
                      · have hm := z_pos c64 hm
                        refine z_iload_n C dX3_readInto_152 9 rfl ?_
                        refine z_if_eq (tgt := 167) C h_v3_1 dX3_readInto_153 (by decide) (fun c65 => ?_) (fun c65 => ?_)
                        · have hm := z_pos c65 hm
                          refine z_iconst C dX3_readInto_167 ?_
                          refine z_istore_n C dX3_readInto_168 (by decide) (L' := [(3, z_i 0), (10, z_i r32), (9, z_i r29), (8, z_i r26), (7, z_i r23), (6, z_i r20), (5, z_i t_at_1), (0, .ref t_o), (1, .ref g_o), (2, .ref w_o), (4, z_i v4_1)]) rfl ?_
                          obtain ⟨c66, hm⟩ := z_chk_some hm
                          refine z_iinc C dX3_readInto_169 10 rfl (by decide) (L' := [(4, z_i (v4_1 + 1)), (3, z_i 0), (10, z_i r32), (9, z_i r29), (8, z_i r26), (7, z_i r23), (6, z_i r20), (5, z_i t_at_1), (0, .ref t_o), (1, .ref g_o), (2, .ref w_o)]) rfl ?_
                          refine z_goto (tgt := 18) C dX3_readInto_172 (by decide) ?_
                          refine z_sub (L' := [(0, .ref t_o), (1, .ref g_o), (2, .ref w_o), (3, z_i 0), (4, z_i (v4_1 + 1))]) [8, 9, 10, 1, 0] rfl ?_
                          exact ih1 0 (v4_1 + 1) t_at_33 g_rows_1 g_columns_1 g_cells_1 g_kind_1 w_height_1 w_drops_1 (z_k 0 rfl) c66 h_t_at_33 h_g_rows_1 h_g_columns_1 h_g_cells_1 h_g_kind_1 h_w_height_1 h_w_drops_1 hm
                        · have hm := z_neg c65 hm
                          refine z_iload C dX3_readInto_156 4 rfl ?_
                          refine z_bipush C dX3_readInto_158 (by decide) ?_
                          refine z_icmp_ne (tgt := 167) C h_r20 (z_k 115 rfl) dX3_readInto_160 (by decide) (fun c67 => ?_) (fun c67 => ?_)
                          · have hm := z_pos c67 hm
                            refine z_iconst C dX3_readInto_167 ?_
                            refine z_istore_n C dX3_readInto_168 (by decide) (L' := [(3, z_i 0), (10, z_i r32), (9, z_i r29), (8, z_i r26), (7, z_i r23), (6, z_i r20), (5, z_i t_at_1), (0, .ref t_o), (1, .ref g_o), (2, .ref w_o), (4, z_i v4_1)]) rfl ?_
                            obtain ⟨c68, hm⟩ := z_chk_some hm
                            refine z_iinc C dX3_readInto_169 10 rfl (by decide) (L' := [(4, z_i (v4_1 + 1)), (3, z_i 0), (10, z_i r32), (9, z_i r29), (8, z_i r26), (7, z_i r23), (6, z_i r20), (5, z_i t_at_1), (0, .ref t_o), (1, .ref g_o), (2, .ref w_o)]) rfl ?_
                            refine z_goto (tgt := 18) C dX3_readInto_172 (by decide) ?_
                            refine z_sub (L' := [(0, .ref t_o), (1, .ref g_o), (2, .ref w_o), (3, z_i 0), (4, z_i (v4_1 + 1))]) [8, 9, 10, 1, 0] rfl ?_
                            exact ih1 0 (v4_1 + 1) t_at_33 g_rows_1 g_columns_1 g_cells_1 g_kind_1 w_height_1 w_drops_1 (z_k 0 rfl) c68 h_t_at_33 h_g_rows_1 h_g_columns_1 h_g_cells_1 h_g_kind_1 h_w_height_1 h_w_drops_1 hm
                          · have hm := z_neg c67 hm
                            refine z_iconst C dX3_readInto_163 ?_
                            refine z_goto (tgt := 168) C dX3_readInto_164 (by decide) ?_
                            refine z_istore_n C dX3_readInto_168 (by decide) (L' := [(3, z_i 1), (10, z_i r32), (9, z_i r29), (8, z_i r26), (7, z_i r23), (6, z_i r20), (5, z_i t_at_1), (0, .ref t_o), (1, .ref g_o), (2, .ref w_o), (4, z_i v4_1)]) rfl ?_
                            obtain ⟨c69, hm⟩ := z_chk_some hm
                            refine z_iinc C dX3_readInto_169 10 rfl (by decide) (L' := [(4, z_i (v4_1 + 1)), (3, z_i 1), (10, z_i r32), (9, z_i r29), (8, z_i r26), (7, z_i r23), (6, z_i r20), (5, z_i t_at_1), (0, .ref t_o), (1, .ref g_o), (2, .ref w_o)]) rfl ?_
                            refine z_goto (tgt := 18) C dX3_readInto_172 (by decide) ?_
                            refine z_sub (L' := [(0, .ref t_o), (1, .ref g_o), (2, .ref w_o), (3, z_i 1), (4, z_i (v4_1 + 1))]) [8, 9, 10, 1, 0] rfl ?_
                            exact ih1 1 (v4_1 + 1) t_at_33 g_rows_1 g_columns_1 g_cells_1 g_kind_1 w_height_1 w_drops_1 (z_k 1 rfl) c69 h_t_at_33 h_g_rows_1 h_g_columns_1 h_g_cells_1 h_g_kind_1 h_w_height_1 h_w_drops_1 hm
                      · have hm := z_neg c64 hm
                        refine z_aload_n C dX3_readInto_138 7 rfl ?_
                        refine z_iload C dX3_readInto_139 3 rfl ?_
                        refine z_iload C dX3_readInto_141 1 rfl ?_
                        obtain ⟨r70, g_rows_71, g_columns_72, g_cells_73, k74, hm⟩ := z_b4s hm
                        refine z_callVi C (k_X0_shape l G N g_o g_Akind g_Abeside g_AbesideBits g_rows_1 g_columns_1 g_cells_1 g_kind_1 g_beside g_besideBits r23 r29 h_g_rows_1 h_g_columns_1 h_g_cells_1 h_g_kind_1 h_g_beside h_r23 h_r29 r70 g_rows_71 g_columns_72 g_cells_73 k74) zv_X0_shape zl_X3_47 dX3_readInto_143 [2, 3, 4, 5] rfl rfl rfl (ws' := [(t_o, z_o 3 [.ref t_Aletters, z_i t_length, z_i t_at_33]), (t_Aletters, z_a G.2.2.2.1 200 t_letters), (g_o, z_o 0 [z_i g_rows_71, z_i g_columns_72, z_i g_cells_73, .ref g_Akind, .ref g_Abeside, .ref g_AbesideBits]), (g_Akind, z_a G.2.1 36 g_kind_1), (g_Abeside, z_a G.2.1 144 g_beside), (g_AbesideBits, z_l G.2.2.1 36 g_besideBits), (w_o, z_o 4 [.ref w_Aheight, .ref w_Adrops, z_i w_hours_8, .long w_restless]), (w_Aheight, z_a G.2.1 36 w_height_1), (w_Adrops, z_a G.2.1 36 w_drops_1)]) rfl 2 rfl rfl rfl [] rfl (Nat.le_of_ble_eq_true rfl) ⟨Nat.le_of_ble_eq_true rfl, Nat.le_of_ble_eq_true rfl⟩ ⟨rfl, rfl⟩ ⟨Nat.zero_le _, Nat.zero_le _⟩ (fun hF => ?_)
                        obtain ⟨hb_r70, h_g_rows_71, h_g_columns_72, h_g_cells_73, -⟩ := hF
                        refine z_if_ne (tgt := 152) C (z_n01 hb_r70) dX3_readInto_146 (by decide) (fun c75 => ?_) (fun c75 => ?_)
                        · have hm := z_pos c75 hm
                          refine z_iload_n C dX3_readInto_152 9 rfl ?_
                          refine z_if_eq (tgt := 167) C h_v3_1 dX3_readInto_153 (by decide) (fun c76 => ?_) (fun c76 => ?_)
                          · have hm := z_pos c76 hm
                            refine z_iconst C dX3_readInto_167 ?_
                            refine z_istore_n C dX3_readInto_168 (by decide) (L' := [(3, z_i 0), (10, z_i r32), (9, z_i r29), (8, z_i r26), (7, z_i r23), (6, z_i r20), (5, z_i t_at_1), (0, .ref t_o), (1, .ref g_o), (2, .ref w_o), (4, z_i v4_1)]) rfl ?_
                            obtain ⟨c77, hm⟩ := z_chk_some hm
                            refine z_iinc C dX3_readInto_169 10 rfl (by decide) (L' := [(4, z_i (v4_1 + 1)), (3, z_i 0), (10, z_i r32), (9, z_i r29), (8, z_i r26), (7, z_i r23), (6, z_i r20), (5, z_i t_at_1), (0, .ref t_o), (1, .ref g_o), (2, .ref w_o)]) rfl ?_
                            refine z_goto (tgt := 18) C dX3_readInto_172 (by decide) ?_
                            refine z_sub (L' := [(0, .ref t_o), (1, .ref g_o), (2, .ref w_o), (3, z_i 0), (4, z_i (v4_1 + 1))]) [8, 9, 10, 1, 0] rfl ?_
                            exact ih1 0 (v4_1 + 1) t_at_33 g_rows_71 g_columns_72 g_cells_73 g_kind_1 w_height_1 w_drops_1 (z_k 0 rfl) c77 h_t_at_33 h_g_rows_71 h_g_columns_72 h_g_cells_73 h_g_kind_1 h_w_height_1 h_w_drops_1 hm
                          · have hm := z_neg c76 hm
                            refine z_iload C dX3_readInto_156 4 rfl ?_
                            refine z_bipush C dX3_readInto_158 (by decide) ?_
                            refine z_icmp_ne (tgt := 167) C h_r20 (z_k 115 rfl) dX3_readInto_160 (by decide) (fun c78 => ?_) (fun c78 => ?_)
                            · have hm := z_pos c78 hm
                              refine z_iconst C dX3_readInto_167 ?_
                              refine z_istore_n C dX3_readInto_168 (by decide) (L' := [(3, z_i 0), (10, z_i r32), (9, z_i r29), (8, z_i r26), (7, z_i r23), (6, z_i r20), (5, z_i t_at_1), (0, .ref t_o), (1, .ref g_o), (2, .ref w_o), (4, z_i v4_1)]) rfl ?_
                              obtain ⟨c79, hm⟩ := z_chk_some hm
                              refine z_iinc C dX3_readInto_169 10 rfl (by decide) (L' := [(4, z_i (v4_1 + 1)), (3, z_i 0), (10, z_i r32), (9, z_i r29), (8, z_i r26), (7, z_i r23), (6, z_i r20), (5, z_i t_at_1), (0, .ref t_o), (1, .ref g_o), (2, .ref w_o)]) rfl ?_
                              refine z_goto (tgt := 18) C dX3_readInto_172 (by decide) ?_
                              refine z_sub (L' := [(0, .ref t_o), (1, .ref g_o), (2, .ref w_o), (3, z_i 0), (4, z_i (v4_1 + 1))]) [8, 9, 10, 1, 0] rfl ?_
                              exact ih1 0 (v4_1 + 1) t_at_33 g_rows_71 g_columns_72 g_cells_73 g_kind_1 w_height_1 w_drops_1 (z_k 0 rfl) c79 h_t_at_33 h_g_rows_71 h_g_columns_72 h_g_cells_73 h_g_kind_1 h_w_height_1 h_w_drops_1 hm
                            · have hm := z_neg c78 hm
                              refine z_iconst C dX3_readInto_163 ?_
                              refine z_goto (tgt := 168) C dX3_readInto_164 (by decide) ?_
                              refine z_istore_n C dX3_readInto_168 (by decide) (L' := [(3, z_i 1), (10, z_i r32), (9, z_i r29), (8, z_i r26), (7, z_i r23), (6, z_i r20), (5, z_i t_at_1), (0, .ref t_o), (1, .ref g_o), (2, .ref w_o), (4, z_i v4_1)]) rfl ?_
                              obtain ⟨c80, hm⟩ := z_chk_some hm
                              refine z_iinc C dX3_readInto_169 10 rfl (by decide) (L' := [(4, z_i (v4_1 + 1)), (3, z_i 1), (10, z_i r32), (9, z_i r29), (8, z_i r26), (7, z_i r23), (6, z_i r20), (5, z_i t_at_1), (0, .ref t_o), (1, .ref g_o), (2, .ref w_o)]) rfl ?_
                              refine z_goto (tgt := 18) C dX3_readInto_172 (by decide) ?_
                              refine z_sub (L' := [(0, .ref t_o), (1, .ref g_o), (2, .ref w_o), (3, z_i 1), (4, z_i (v4_1 + 1))]) [8, 9, 10, 1, 0] rfl ?_
                              exact ih1 1 (v4_1 + 1) t_at_33 g_rows_71 g_columns_72 g_cells_73 g_kind_1 w_height_1 w_drops_1 (z_k 1 rfl) c80 h_t_at_33 h_g_rows_71 h_g_columns_72 h_g_cells_73 h_g_kind_1 h_w_height_1 h_w_drops_1 hm
                        · have hm := z_neg c75 hm
                          refine z_iload C dX3_readInto_149 5 rfl ?_
                          cases hm
                          exact z_iret C E dX3_readInto_151 ⟨rfl, rfl, h_t_at_1, h_t_at_33, h_g_rows_71, h_g_columns_72, h_g_cells_73, h_g_kind_1, h_g_beside, h_w_height_1, h_w_drops_1, h_w_hours_8, trivial⟩
                    · have hm := z_neg c63 hm
                      refine z_goto (tgt := 128) C dX3_readInto_111 (by decide) ?_
                      refine z_iload C dX3_readInto_128 5 rfl ?_
                      cases hm
                      exact z_iret C E dX3_readInto_130 ⟨rfl, rfl, h_t_at_1, h_t_at_33, h_g_rows_1, h_g_columns_1, h_g_cells_1, h_g_kind_1, h_g_beside, h_w_height_1, h_w_drops_1, h_w_hours_8, trivial⟩
                · have hm := z_neg c38 hm
                  refine z_iload C dX3_readInto_97 5 rfl ?_
                  cases hm
                  exact z_iret C E dX3_readInto_99 ⟨rfl, rfl, h_t_at_1, h_t_at_33, h_g_rows_1, h_g_columns_1, h_g_cells_1, h_g_kind_1, h_g_beside, h_w_height_1, h_w_drops_1, h_w_hours_8, trivial⟩
  refine z_sub (L' := [(0, .ref t_o), (1, .ref g_o), (2, .ref w_o), (3, z_i 1), (4, z_i 0)]) [2, 3, 4, 1, 0] rfl ?_
  exact L1 N 1 0 0 g_rows_1 g_columns_2 g_cells_3 g_kind_4 w_height_6 w_drops_7 (z_k 1 rfl) (z_k 0 rfl) (z_k 0 rfl) h_g_rows_1 h_g_columns_2 h_g_cells_3 h_g_kind_4 h_w_height_6 h_w_drops_7 hm
set_option maxRecDepth 100000 in
theorem k_X0_copyFrom (l : Launch) (G : z_G) (N : Nat) (t_o t_Akind t_Abeside t_AbesideBits o_o o_Akind o_Abeside o_AbesideBits : Nat) (t_rows : Int) (t_columns : Int) (t_cells : Int) (t_kind : (Int → Int)) (t_beside : (Int → Int)) (t_besideBits : (Int → Int64)) (o_rows : Int) (o_columns : Int) (o_cells : Int) (o_kind : (Int → Int)) (o_beside : (Int → Int)) (o_besideBits : (Int → Int64)) (h_t_rows : z_n t_rows) (h_t_columns : z_n t_columns) (h_t_cells : z_n t_cells) (h_t_kind : z_r t_kind) (h_t_beside : z_r t_beside) (h_o_rows : z_n o_rows) (h_o_columns : z_n o_columns) (h_o_cells : z_n o_cells) (h_o_kind : z_r o_kind) (h_o_beside : z_r o_beside) (q_t_rows : Int) (q_t_columns : Int) (q_t_cells : Int) (q_t_kind : (Int → Int)) (q_t_beside : (Int → Int)) (q_t_besideBits : (Int → Int64)) (hm : m_X0_copyFrom N t_rows t_columns t_cells t_kind t_beside t_besideBits o_rows o_columns o_cells o_kind o_beside o_besideBits = some (q_t_rows, q_t_columns, q_t_cells, q_t_kind, q_t_beside, q_t_besideBits)) : z_M l G yX0_copyFrom cX0_copyFrom 2 none (k2_rm 1 26) [.ref t_o, .ref o_o] ([(t_o, z_o 0 [z_i t_rows, z_i t_columns, z_i t_cells, .ref t_Akind, .ref t_Abeside, .ref t_AbesideBits]), (t_Akind, z_a G.2.1 36 t_kind), (t_Abeside, z_a G.2.1 144 t_beside), (t_AbesideBits, z_l G.2.2.1 36 t_besideBits), (o_o, z_o 0 [z_i o_rows, z_i o_columns, z_i o_cells, .ref o_Akind, .ref o_Abeside, .ref o_AbesideBits]), (o_Akind, z_a G.2.1 36 o_kind), (o_Abeside, z_a G.2.1 144 o_beside), (o_AbesideBits, z_l G.2.2.1 36 o_besideBits)]) 0 0 (fun v w => v = none ∧ w = [(t_o, z_o 0 [z_i q_t_rows, z_i q_t_columns, z_i q_t_cells, .ref t_Akind, .ref t_Abeside, .ref t_AbesideBits]), (t_Akind, z_a G.2.1 36 q_t_kind), (t_Abeside, z_a G.2.1 144 q_t_beside), (t_AbesideBits, z_l G.2.2.1 36 q_t_besideBits), (o_o, z_o 0 [z_i o_rows, z_i o_columns, z_i o_cells, .ref o_Akind, .ref o_Abeside, .ref o_AbesideBits]), (o_Akind, z_a G.2.1 36 o_kind), (o_Abeside, z_a G.2.1 144 o_beside), (o_AbesideBits, z_l G.2.2.1 36 o_besideBits)] ∧ z_n q_t_rows ∧ z_n q_t_columns ∧ z_n q_t_cells ∧ z_r q_t_kind ∧ z_r q_t_beside ∧ True) := by
  unfold m_X0_copyFrom at hm
  refine z_M.intro (by decide +kernel) (Nat.le_of_ble_eq_true rfl) (L := [(0, .ref t_o), (1, .ref o_o)]) rfl (fun X C E => ?_)
  refine z_aload_n C dX0_copyFrom_0 0 rfl ?_
  refine z_aload_n C dX0_copyFrom_1 1 rfl ?_
  refine z_get C zf_X0_9 dX0_copyFrom_2 4 rfl rfl ?_
  refine z_puti C zf_X0_9 dX0_copyFrom_5 0 rfl rfl (ws' := [(t_o, z_o 0 [z_i o_rows, z_i t_columns, z_i t_cells, .ref t_Akind, .ref t_Abeside, .ref t_AbesideBits]), (t_Akind, z_a G.2.1 36 t_kind), (t_Abeside, z_a G.2.1 144 t_beside), (t_AbesideBits, z_l G.2.2.1 36 t_besideBits), (o_o, z_o 0 [z_i o_rows, z_i o_columns, z_i o_cells, .ref o_Akind, .ref o_Abeside, .ref o_AbesideBits]), (o_Akind, z_a G.2.1 36 o_kind), (o_Abeside, z_a G.2.1 144 o_beside), (o_AbesideBits, z_l G.2.2.1 36 o_besideBits)]) rfl ?_
  refine z_aload_n C dX0_copyFrom_8 0 rfl ?_
  refine z_aload_n C dX0_copyFrom_9 1 rfl ?_
  refine z_get C zf_X0_15 dX0_copyFrom_10 4 rfl rfl ?_
  refine z_puti C zf_X0_15 dX0_copyFrom_13 0 rfl rfl (ws' := [(t_o, z_o 0 [z_i o_rows, z_i o_columns, z_i t_cells, .ref t_Akind, .ref t_Abeside, .ref t_AbesideBits]), (t_Akind, z_a G.2.1 36 t_kind), (t_Abeside, z_a G.2.1 144 t_beside), (t_AbesideBits, z_l G.2.2.1 36 t_besideBits), (o_o, z_o 0 [z_i o_rows, z_i o_columns, z_i o_cells, .ref o_Akind, .ref o_Abeside, .ref o_AbesideBits]), (o_Akind, z_a G.2.1 36 o_kind), (o_Abeside, z_a G.2.1 144 o_beside), (o_AbesideBits, z_l G.2.2.1 36 o_besideBits)]) rfl ?_
  refine z_aload_n C dX0_copyFrom_16 0 rfl ?_
  refine z_aload_n C dX0_copyFrom_17 1 rfl ?_
  refine z_get C zf_X0_18 dX0_copyFrom_18 4 rfl rfl ?_
  refine z_puti C zf_X0_18 dX0_copyFrom_21 0 rfl rfl (ws' := [(t_o, z_o 0 [z_i o_rows, z_i o_columns, z_i o_cells, .ref t_Akind, .ref t_Abeside, .ref t_AbesideBits]), (t_Akind, z_a G.2.1 36 t_kind), (t_Abeside, z_a G.2.1 144 t_beside), (t_AbesideBits, z_l G.2.2.1 36 t_besideBits), (o_o, z_o 0 [z_i o_rows, z_i o_columns, z_i o_cells, .ref o_Akind, .ref o_Abeside, .ref o_AbesideBits]), (o_Akind, z_a G.2.1 36 o_kind), (o_Abeside, z_a G.2.1 144 o_beside), (o_AbesideBits, z_l G.2.2.1 36 o_besideBits)]) rfl ?_
  refine z_aload_n C dX0_copyFrom_24 1 rfl ?_
  refine z_get C zf_X0_21 dX0_copyFrom_25 4 rfl rfl ?_
  refine z_iconst C dX0_copyFrom_28 ?_
  refine z_aload_n C dX0_copyFrom_29 0 rfl ?_
  refine z_get C zf_X0_21 dX0_copyFrom_30 0 rfl rfl ?_
  refine z_iconst C dX0_copyFrom_33 ?_
  refine z_bipush C dX0_copyFrom_34 (by decide) ?_
  obtain ⟨c1, hm⟩ := z_chk_some hm
  refine z_copyi C zl_X0_53 z_ac1 z_ac2 z_ac3 dX0_copyFrom_36 5 1 rfl rfl c1 (z_k 0 rfl) (z_k 0 rfl) (z_k 36 rfl) ⟨Nat.le_of_ble_eq_true rfl, Nat.le_of_ble_eq_true rfl⟩ (ws' := [(t_o, z_o 0 [z_i o_rows, z_i o_columns, z_i o_cells, .ref t_Akind, .ref t_Abeside, .ref t_AbesideBits]), (t_Akind, z_a G.2.1 36 (z_cpy o_kind t_kind 0 0 36)), (t_Abeside, z_a G.2.1 144 t_beside), (t_AbesideBits, z_l G.2.2.1 36 t_besideBits), (o_o, z_o 0 [z_i o_rows, z_i o_columns, z_i o_cells, .ref o_Akind, .ref o_Abeside, .ref o_AbesideBits]), (o_Akind, z_a G.2.1 36 o_kind), (o_Abeside, z_a G.2.1 144 o_beside), (o_AbesideBits, z_l G.2.2.1 36 o_besideBits)]) rfl ?_
  refine z_aload_n C dX0_copyFrom_39 1 rfl ?_
  refine z_get C zf_X0_25 dX0_copyFrom_40 4 rfl rfl ?_
  refine z_iconst C dX0_copyFrom_43 ?_
  refine z_aload_n C dX0_copyFrom_44 0 rfl ?_
  refine z_get C zf_X0_25 dX0_copyFrom_45 0 rfl rfl ?_
  refine z_iconst C dX0_copyFrom_48 ?_
  refine z_sipush C dX0_copyFrom_49 (by decide) ?_
  obtain ⟨c2, hm⟩ := z_chk_some hm
  refine z_copyi C zl_X0_53 z_ac1 z_ac2 z_ac3 dX0_copyFrom_52 6 2 rfl rfl c2 (z_k 0 rfl) (z_k 0 rfl) (z_k 144 rfl) ⟨Nat.le_of_ble_eq_true rfl, Nat.le_of_ble_eq_true rfl⟩ (ws' := [(t_o, z_o 0 [z_i o_rows, z_i o_columns, z_i o_cells, .ref t_Akind, .ref t_Abeside, .ref t_AbesideBits]), (t_Akind, z_a G.2.1 36 (z_cpy o_kind t_kind 0 0 36)), (t_Abeside, z_a G.2.1 144 (z_cpy o_beside t_beside 0 0 144)), (t_AbesideBits, z_l G.2.2.1 36 t_besideBits), (o_o, z_o 0 [z_i o_rows, z_i o_columns, z_i o_cells, .ref o_Akind, .ref o_Abeside, .ref o_AbesideBits]), (o_Akind, z_a G.2.1 36 o_kind), (o_Abeside, z_a G.2.1 144 o_beside), (o_AbesideBits, z_l G.2.2.1 36 o_besideBits)]) rfl ?_
  refine z_aload_n C dX0_copyFrom_55 1 rfl ?_
  refine z_get C zf_X0_28 dX0_copyFrom_56 4 rfl rfl ?_
  refine z_iconst C dX0_copyFrom_59 ?_
  refine z_aload_n C dX0_copyFrom_60 0 rfl ?_
  refine z_get C zf_X0_28 dX0_copyFrom_61 0 rfl rfl ?_
  refine z_iconst C dX0_copyFrom_64 ?_
  refine z_bipush C dX0_copyFrom_65 (by decide) ?_
  obtain ⟨c3, hm⟩ := z_chk_some hm
  refine z_copyl C zl_X0_53 z_ac1 z_ac2 z_ac3 dX0_copyFrom_67 7 3 rfl rfl c3 (z_k 0 rfl) (z_k 0 rfl) (z_k 36 rfl) ⟨Nat.le_of_ble_eq_true rfl, Nat.le_of_ble_eq_true rfl⟩ (ws' := [(t_o, z_o 0 [z_i o_rows, z_i o_columns, z_i o_cells, .ref t_Akind, .ref t_Abeside, .ref t_AbesideBits]), (t_Akind, z_a G.2.1 36 (z_cpy o_kind t_kind 0 0 36)), (t_Abeside, z_a G.2.1 144 (z_cpy o_beside t_beside 0 0 144)), (t_AbesideBits, z_l G.2.2.1 36 (z_cpy o_besideBits t_besideBits 0 0 36)), (o_o, z_o 0 [z_i o_rows, z_i o_columns, z_i o_cells, .ref o_Akind, .ref o_Abeside, .ref o_AbesideBits]), (o_Akind, z_a G.2.1 36 o_kind), (o_Abeside, z_a G.2.1 144 o_beside), (o_AbesideBits, z_l G.2.2.1 36 o_besideBits)]) rfl ?_
  cases hm
  exact z_vret C E dX0_copyFrom_70 ⟨rfl, rfl, h_o_rows, h_o_columns, h_o_cells, (z_r_cpy h_o_kind h_t_kind), (z_r_cpy h_o_beside h_t_beside), trivial⟩
set_option maxRecDepth 100000 in
theorem k_X4_copyFrom (l : Launch) (G : z_G) (N : Nat) (t_o t_Aheight t_Adrops o_o o_Aheight o_Adrops : Nat) (t_height : (Int → Int)) (t_drops : (Int → Int)) (t_hours : Int) (t_restless : Int64) (o_height : (Int → Int)) (o_drops : (Int → Int)) (o_hours : Int) (o_restless : Int64) (h_t_height : z_r t_height) (h_t_drops : z_r t_drops) (h_t_hours : z_n t_hours) (h_o_height : z_r o_height) (h_o_drops : z_r o_drops) (h_o_hours : z_n o_hours) (q_t_height : (Int → Int)) (q_t_drops : (Int → Int)) (q_t_hours : Int) (hm : m_X4_copyFrom N t_height t_drops t_hours o_height o_drops o_hours = some (q_t_height, q_t_drops, q_t_hours)) : z_M l G yX4_copyFrom cX4_copyFrom 2 none (k2_rm 1 26) [.ref t_o, .ref o_o] ([(t_o, z_o 4 [.ref t_Aheight, .ref t_Adrops, z_i t_hours, .long t_restless]), (t_Aheight, z_a G.2.1 36 t_height), (t_Adrops, z_a G.2.1 36 t_drops), (o_o, z_o 4 [.ref o_Aheight, .ref o_Adrops, z_i o_hours, .long o_restless]), (o_Aheight, z_a G.2.1 36 o_height), (o_Adrops, z_a G.2.1 36 o_drops)]) 0 0 (fun v w => v = none ∧ w = [(t_o, z_o 4 [.ref t_Aheight, .ref t_Adrops, z_i q_t_hours, .long t_restless]), (t_Aheight, z_a G.2.1 36 q_t_height), (t_Adrops, z_a G.2.1 36 q_t_drops), (o_o, z_o 4 [.ref o_Aheight, .ref o_Adrops, z_i o_hours, .long o_restless]), (o_Aheight, z_a G.2.1 36 o_height), (o_Adrops, z_a G.2.1 36 o_drops)] ∧ z_r q_t_height ∧ z_r q_t_drops ∧ z_n q_t_hours ∧ True) := by
  unfold m_X4_copyFrom at hm
  refine z_M.intro (by decide +kernel) (Nat.le_of_ble_eq_true rfl) (L := [(0, .ref t_o), (1, .ref o_o)]) rfl (fun X C E => ?_)
  refine z_aload_n C dX4_copyFrom_0 1 rfl ?_
  refine z_get C zf_X4_9 dX4_copyFrom_1 3 rfl rfl ?_
  refine z_iconst C dX4_copyFrom_4 ?_
  refine z_aload_n C dX4_copyFrom_5 0 rfl ?_
  refine z_get C zf_X4_9 dX4_copyFrom_6 0 rfl rfl ?_
  refine z_iconst C dX4_copyFrom_9 ?_
  refine z_bipush C dX4_copyFrom_10 (by decide) ?_
  obtain ⟨c1, hm⟩ := z_chk_some hm
  refine z_copyi C zl_X4_32 z_ac1 z_ac2 z_ac3 dX4_copyFrom_12 4 1 rfl rfl c1 (z_k 0 rfl) (z_k 0 rfl) (z_k 36 rfl) ⟨Nat.le_of_ble_eq_true rfl, Nat.le_of_ble_eq_true rfl⟩ (ws' := [(t_o, z_o 4 [.ref t_Aheight, .ref t_Adrops, z_i t_hours, .long t_restless]), (t_Aheight, z_a G.2.1 36 (z_cpy o_height t_height 0 0 36)), (t_Adrops, z_a G.2.1 36 t_drops), (o_o, z_o 4 [.ref o_Aheight, .ref o_Adrops, z_i o_hours, .long o_restless]), (o_Aheight, z_a G.2.1 36 o_height), (o_Adrops, z_a G.2.1 36 o_drops)]) rfl ?_
  refine z_aload_n C dX4_copyFrom_15 1 rfl ?_
  refine z_get C zf_X4_15 dX4_copyFrom_16 3 rfl rfl ?_
  refine z_iconst C dX4_copyFrom_19 ?_
  refine z_aload_n C dX4_copyFrom_20 0 rfl ?_
  refine z_get C zf_X4_15 dX4_copyFrom_21 0 rfl rfl ?_
  refine z_iconst C dX4_copyFrom_24 ?_
  refine z_bipush C dX4_copyFrom_25 (by decide) ?_
  obtain ⟨c2, hm⟩ := z_chk_some hm
  refine z_copyi C zl_X4_32 z_ac1 z_ac2 z_ac3 dX4_copyFrom_27 5 2 rfl rfl c2 (z_k 0 rfl) (z_k 0 rfl) (z_k 36 rfl) ⟨Nat.le_of_ble_eq_true rfl, Nat.le_of_ble_eq_true rfl⟩ (ws' := [(t_o, z_o 4 [.ref t_Aheight, .ref t_Adrops, z_i t_hours, .long t_restless]), (t_Aheight, z_a G.2.1 36 (z_cpy o_height t_height 0 0 36)), (t_Adrops, z_a G.2.1 36 (z_cpy o_drops t_drops 0 0 36)), (o_o, z_o 4 [.ref o_Aheight, .ref o_Adrops, z_i o_hours, .long o_restless]), (o_Aheight, z_a G.2.1 36 o_height), (o_Adrops, z_a G.2.1 36 o_drops)]) rfl ?_
  refine z_aload_n C dX4_copyFrom_30 0 rfl ?_
  refine z_aload_n C dX4_copyFrom_31 1 rfl ?_
  refine z_get C zf_X4_18 dX4_copyFrom_32 3 rfl rfl ?_
  refine z_puti C zf_X4_18 dX4_copyFrom_35 0 rfl rfl (ws' := [(t_o, z_o 4 [.ref t_Aheight, .ref t_Adrops, z_i o_hours, .long t_restless]), (t_Aheight, z_a G.2.1 36 (z_cpy o_height t_height 0 0 36)), (t_Adrops, z_a G.2.1 36 (z_cpy o_drops t_drops 0 0 36)), (o_o, z_o 4 [.ref o_Aheight, .ref o_Adrops, z_i o_hours, .long o_restless]), (o_Aheight, z_a G.2.1 36 o_height), (o_Adrops, z_a G.2.1 36 o_drops)]) rfl ?_
  cases hm
  exact z_vret C E dX4_copyFrom_38 ⟨rfl, rfl, (z_r_cpy h_o_height h_t_height), (z_r_cpy h_o_drops h_t_drops), h_o_hours, trivial⟩
