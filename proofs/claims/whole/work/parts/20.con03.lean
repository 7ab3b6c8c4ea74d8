set_option maxRecDepth 100000 in
theorem k_X4_wetBits (l : Launch) (G : z_G) (N : Nat) (t_o t_Aheight t_Adrops g_o g_Akind g_Abeside g_AbesideBits : Nat) (t_height : (Int → Int)) (t_drops : (Int → Int)) (t_hours : Int) (t_restless : Int64) (g_rows : Int) (g_columns : Int) (g_cells : Int) (g_kind : (Int → Int)) (g_beside : (Int → Int)) (g_besideBits : (Int → Int64)) (h_t_height : z_r t_height) (h_t_drops : z_r t_drops) (h_t_hours : z_n t_hours) (h_g_rows : z_n g_rows) (h_g_columns : z_n g_columns) (h_g_cells : z_n g_cells) (h_g_kind : z_r g_kind) (h_g_beside : z_r g_beside) (rr : Int64) (hm : m_X4_wetBits N t_drops g_cells = some (rr)) : z_M l G yX4_wetBits cX4_wetBits 5 (some .long) (k2_rm 0 0) [.ref t_o, .ref g_o] ([(t_o, z_o 4 [.ref t_Aheight, .ref t_Adrops, z_i t_hours, .long t_restless]), (t_Aheight, z_a G.2.1 36 t_height), (t_Adrops, z_a G.2.1 36 t_drops), (g_o, z_o 0 [z_i g_rows, z_i g_columns, z_i g_cells, .ref g_Akind, .ref g_Abeside, .ref g_AbesideBits]), (g_Akind, z_a G.2.1 36 g_kind), (g_Abeside, z_a G.2.1 144 g_beside), (g_AbesideBits, z_l G.2.2.1 36 g_besideBits)]) 0 0 (fun v w => v = some (.long rr) ∧ w = [(t_o, z_o 4 [.ref t_Aheight, .ref t_Adrops, z_i t_hours, .long t_restless]), (t_Aheight, z_a G.2.1 36 t_height), (t_Adrops, z_a G.2.1 36 t_drops), (g_o, z_o 0 [z_i g_rows, z_i g_columns, z_i g_cells, .ref g_Akind, .ref g_Abeside, .ref g_AbesideBits]), (g_Akind, z_a G.2.1 36 g_kind), (g_Abeside, z_a G.2.1 144 g_beside), (g_AbesideBits, z_l G.2.2.1 36 g_besideBits)] ∧ True) := by
  unfold m_X4_wetBits at hm
  refine z_M.intro (by decide +kernel) (Nat.le_of_ble_eq_true rfl) (L := [(0, .ref t_o), (1, .ref g_o)]) rfl (fun X C E => ?_)
  refine z_lconst (v := (0 : Int64)) C dX4_wetBits_0 (by decide) ?_
  refine z_lstore_n C dX4_wetBits_1 (by decide) (L' := [(2, .long (0 : Int64)), (0, .ref t_o), (1, .ref g_o)]) rfl ?_
  refine z_iconst C dX4_wetBits_2 ?_
  refine z_istore C dX4_wetBits_3 (by decide) (L' := [(4, z_i 0), (2, .long (0 : Int64)), (0, .ref t_o), (1, .ref g_o)]) rfl ?_
  obtain ⟨o2_1, hl, hm⟩ := z_b1s hm
  have JX1 : z_J X 0 0 ([(t_o, z_o 4 [.ref t_Aheight, .ref t_Adrops, z_i t_hours, .long t_restless]), (t_Aheight, z_a G.2.1 36 t_height), (t_Adrops, z_a G.2.1 36 t_drops), (g_o, z_o 0 [z_i g_rows, z_i g_columns, z_i g_cells, .ref g_Akind, .ref g_Abeside, .ref g_AbesideBits]), (g_Akind, z_a G.2.1 36 g_kind), (g_Abeside, z_a G.2.1 144 g_beside), (g_AbesideBits, z_l G.2.2.1 36 g_besideBits)]) [(2, .long o2_1)] 44 [] := by
    clear hl
    refine z_lload_n C dX4_wetBits_44 0 rfl ?_
    cases hm
    exact z_lret C E dX4_wetBits_45 ⟨rfl, rfl, trivial⟩
  clear hm
  have L1 : ∀ (n1 : Nat) (v2_1 : Int64) (v4_1 : Int), z_n v4_1 → m_X4_wetBits_l1 N g_cells t_drops n1 v2_1 v4_1 = some (o2_1) → z_J X 0 0 ([(t_o, z_o 4 [.ref t_Aheight, .ref t_Adrops, z_i t_hours, .long t_restless]), (t_Aheight, z_a G.2.1 36 t_height), (t_Adrops, z_a G.2.1 36 t_drops), (g_o, z_o 0 [z_i g_rows, z_i g_columns, z_i g_cells, .ref g_Akind, .ref g_Abeside, .ref g_AbesideBits]), (g_Akind, z_a G.2.1 36 g_kind), (g_Abeside, z_a G.2.1 144 g_beside), (g_AbesideBits, z_l G.2.2.1 36 g_besideBits)]) [(0, .ref t_o), (1, .ref g_o), (2, .long v2_1), (4, z_i v4_1)] 5 [] := by
    clear hl
    intro n1
    induction n1 with
    | zero =>
      intro v2_1 v4_1 h_v4_1 hm
      rw [m_X4_wetBits_l1] at hm
      cases hm
    | succ n1 ih1 =>
      intro v2_1 v4_1 h_v4_1 hm
      rw [m_X4_wetBits_l1] at hm
      refine z_iload C dX4_wetBits_5 3 rfl ?_
      refine z_aload_n C dX4_wetBits_7 1 rfl ?_
      refine z_get C zf_X4_38 dX4_wetBits_8 3 rfl rfl ?_
      refine z_icmp_ge (tgt := 44) C h_v4_1 h_g_cells dX4_wetBits_11 (by decide) (fun c1 => ?_) (fun c1 => ?_)
      · have hm := z_pos c1 hm
        refine z_sub (L' := [(2, .long v2_1)]) [2] rfl ?_
        cases hm
        exact JX1
      · have hm := z_neg c1 hm
        refine z_iload C dX4_wetBits_14 3 rfl ?_
        refine z_bipush C dX4_wetBits_16 (by decide) ?_
        refine z_icmp_ge (tgt := 44) C h_v4_1 (z_k 36 rfl) dX4_wetBits_18 (by decide) (fun c2 => ?_) (fun c2 => ?_)
        · have hm := z_pos c2 hm
          refine z_sub (L' := [(2, .long v2_1)]) [2] rfl ?_
          cases hm
          exact JX1
        · have hm := z_neg c2 hm
          refine z_aload_n C dX4_wetBits_21 0 rfl ?_
          refine z_get C zf_X4_15 dX4_wetBits_22 0 rfl rfl ?_
          refine z_iload C dX4_wetBits_25 3 rfl ?_
          obtain ⟨c3, hm⟩ := z_chk_some hm
          refine z_iald C dX4_wetBits_27 2 rfl c3 h_v4_1 ?_
          refine z_if_le (tgt := 38) C (h_t_drops _) dX4_wetBits_28 (by decide) (fun c4 => ?_) (fun c4 => ?_)
          · have hm := z_pos c4 hm
            obtain ⟨c5, hm⟩ := z_chk_some hm
            refine z_iinc C dX4_wetBits_38 3 rfl (by decide) (L' := [(4, z_i (v4_1 + 1)), (0, .ref t_o), (1, .ref g_o), (2, .long v2_1)]) rfl ?_
            refine z_goto (tgt := 5) C dX4_wetBits_41 (by decide) ?_
            refine z_sub (L' := [(0, .ref t_o), (1, .ref g_o), (2, .long v2_1), (4, z_i (v4_1 + 1))]) [1, 2, 3, 0] rfl ?_
            exact ih1 v2_1 (v4_1 + 1) c5 hm
          · have hm := z_neg c4 hm
            refine z_lload_n C dX4_wetBits_31 2 rfl ?_
            refine z_lconst (v := (1 : Int64)) C dX4_wetBits_32 (by decide) ?_
            refine z_iload C dX4_wetBits_33 3 rfl ?_
            refine z_lshlR C dX4_wetBits_35 ?_
            refine z_lor C dX4_wetBits_36 ?_
            refine z_lstore_n C dX4_wetBits_37 (by decide) (L' := [(2, .long (v2_1 ||| (z_lshl (1 : Int64) v4_1))), (0, .ref t_o), (1, .ref g_o), (4, z_i v4_1)]) rfl ?_
            obtain ⟨c6, hm⟩ := z_chk_some hm
            refine z_iinc C dX4_wetBits_38 3 rfl (by decide) (L' := [(4, z_i (v4_1 + 1)), (2, .long (v2_1 ||| (z_lshl (1 : Int64) v4_1))), (0, .ref t_o), (1, .ref g_o)]) rfl ?_
            refine z_goto (tgt := 5) C dX4_wetBits_41 (by decide) ?_
            refine z_sub (L' := [(0, .ref t_o), (1, .ref g_o), (2, .long (v2_1 ||| (z_lshl (1 : Int64) v4_1))), (4, z_i (v4_1 + 1))]) [2, 3, 1, 0] rfl ?_
            exact ih1 (v2_1 ||| (z_lshl (1 : Int64) v4_1)) (v4_1 + 1) c6 hm
  refine z_sub (L' := [(0, .ref t_o), (1, .ref g_o), (2, .long (0 : Int64)), (4, z_i 0)]) [2, 3, 1, 0] rfl ?_
  exact L1 N (0 : Int64) 0 (z_k 0 rfl) hl
set_option maxRecDepth 100000 in
theorem k_X4_whereTo (l : Launch) (G : z_G) (N : Nat) (t_o t_Aheight t_Adrops g_o g_Akind g_Abeside g_AbesideBits : Nat) (t_height : (Int → Int)) (t_drops : (Int → Int)) (t_hours : Int) (t_restless : Int64) (g_rows : Int) (g_columns : Int) (g_cells : Int) (g_kind : (Int → Int)) (g_beside : (Int → Int)) (g_besideBits : (Int → Int64)) (x2 : Int) (h_t_height : z_r t_height) (h_t_drops : z_r t_drops) (h_t_hours : z_n t_hours) (h_g_rows : z_n g_rows) (h_g_columns : z_n g_columns) (h_g_cells : z_n g_cells) (h_g_kind : z_r g_kind) (h_g_beside : z_r g_beside) (h_x2 : z_n x2) (rr : Int) (hm : m_X4_whereTo N t_height t_drops g_cells g_kind g_beside x2 = some (rr)) : z_M l G yX4_whereTo cX4_whereTo 11 (some .int) (k2_rm 1 21) [.ref t_o, .ref g_o, z_i x2] ([(t_o, z_o 4 [.ref t_Aheight, .ref t_Adrops, z_i t_hours, .long t_restless]), (t_Aheight, z_a G.2.1 36 t_height), (t_Adrops, z_a G.2.1 36 t_drops), (g_o, z_o 0 [z_i g_rows, z_i g_columns, z_i g_cells, .ref g_Akind, .ref g_Abeside, .ref g_AbesideBits]), (g_Akind, z_a G.2.1 36 g_kind), (g_Abeside, z_a G.2.1 144 g_beside), (g_AbesideBits, z_l G.2.2.1 36 g_besideBits)]) 0 0 (fun v w => v = some (z_i rr) ∧ w = [(t_o, z_o 4 [.ref t_Aheight, .ref t_Adrops, z_i t_hours, .long t_restless]), (t_Aheight, z_a G.2.1 36 t_height), (t_Adrops, z_a G.2.1 36 t_drops), (g_o, z_o 0 [z_i g_rows, z_i g_columns, z_i g_cells, .ref g_Akind, .ref g_Abeside, .ref g_AbesideBits]), (g_Akind, z_a G.2.1 36 g_kind), (g_Abeside, z_a G.2.1 144 g_beside), (g_AbesideBits, z_l G.2.2.1 36 g_besideBits)] ∧ z_n rr ∧ True) := by
  unfold m_X4_whereTo at hm
  refine z_M.intro (by decide +kernel) (Nat.le_of_ble_eq_true rfl) (L := [(0, .ref t_o), (1, .ref g_o), (2, z_i x2)]) rfl (fun X C E => ?_)
  refine z_iload_n C dX4_whereTo_0 2 rfl ?_
  refine z_iconst C dX4_whereTo_1 ?_
  obtain ⟨c1, hm⟩ := z_chk_some hm
  refine z_imul C dX4_whereTo_2 ?_
  refine z_istore_n C dX4_whereTo_3 (by decide) (L' := [(3, z_i (x2 * 4)), (0, .ref t_o), (1, .ref g_o), (2, z_i x2)]) rfl ?_
  refine z_aload_n C dX4_whereTo_4 2 rfl ?_
  refine z_iload_n C dX4_whereTo_5 3 rfl ?_
  obtain ⟨r2, k3, hm⟩ := z_b1s hm
  refine z_callVi C (k_X0_holds l G N g_o g_Akind g_Abeside g_AbesideBits g_rows g_columns g_cells g_kind g_beside g_besideBits x2 h_g_rows h_g_columns h_g_cells h_g_kind h_g_beside h_x2 r2 k3) zv_X0_holds zl_X4_71 dX4_whereTo_6 [3, 4, 5, 6] rfl rfl rfl (ws' := [(t_o, z_o 4 [.ref t_Aheight, .ref t_Adrops, z_i t_hours, .long t_restless]), (t_Aheight, z_a G.2.1 36 t_height), (t_Adrops, z_a G.2.1 36 t_drops), (g_o, z_o 0 [z_i g_rows, z_i g_columns, z_i g_cells, .ref g_Akind, .ref g_Abeside, .ref g_AbesideBits]), (g_Akind, z_a G.2.1 36 g_kind), (g_Abeside, z_a G.2.1 144 g_beside), (g_AbesideBits, z_l G.2.2.1 36 g_besideBits)]) rfl 3 rfl rfl rfl [] rfl (Nat.le_of_ble_eq_true rfl) ⟨Nat.le_of_ble_eq_true rfl, Nat.le_of_ble_eq_true rfl⟩ ⟨rfl, rfl⟩ ⟨Nat.zero_le _, Nat.zero_le _⟩ (fun hF => ?_)
  obtain ⟨hb_r2, -⟩ := hF
  refine z_if_eq (tgt := 32) C (z_n01 hb_r2) dX4_whereTo_9 (by decide) (fun c4 => ?_) (fun c4 => ?_)
  · have hm := z_pos c4 hm
    refine z_bipush C dX4_whereTo_32 (by decide) ?_
    cases hm
    exact z_iret C E dX4_whereTo_34 ⟨rfl, rfl, (z_k (-4) rfl), trivial⟩
  · have hm := z_neg c4 hm
    refine z_aload_n C dX4_whereTo_12 1 rfl ?_
    refine z_get C zf_X4_15 dX4_whereTo_13 0 rfl rfl ?_
    refine z_iload_n C dX4_whereTo_16 3 rfl ?_
    obtain ⟨c5, hm⟩ := z_chk_some hm
    refine z_iald C dX4_whereTo_17 2 rfl c5 h_x2 ?_
    refine z_if_le (tgt := 32) C (h_t_drops _) dX4_whereTo_18 (by decide) (fun c6 => ?_) (fun c6 => ?_)
    · have hm := z_pos c6 hm
      refine z_bipush C dX4_whereTo_32 (by decide) ?_
      cases hm
      exact z_iret C E dX4_whereTo_34 ⟨rfl, rfl, (z_k (-4) rfl), trivial⟩
    · have hm := z_neg c6 hm
      refine z_iload_n C dX4_whereTo_21 0 rfl ?_
      refine z_iconst C dX4_whereTo_22 ?_
      obtain ⟨c7, hm⟩ := z_chk_some hm
      refine z_iadd C dX4_whereTo_23 ?_
      refine z_aload_n C dX4_whereTo_24 2 rfl ?_
      refine z_get C zf_X4_92 dX4_whereTo_25 3 rfl rfl ?_
      refine z_alen_i (x := 144) C dX4_whereTo_28 5 rfl rfl ?_
      refine z_icmp_le (tgt := 35) C c7 (z_k 144 rfl) dX4_whereTo_29 (by decide) (fun c8 => ?_) (fun c8 => ?_)
      · have hm := z_pos c8 hm
        refine z_aload_n C dX4_whereTo_35 1 rfl ?_
        refine z_get C zf_X4_9 dX4_whereTo_36 0 rfl rfl ?_
        refine z_iload_n C dX4_whereTo_39 3 rfl ?_
        obtain ⟨c9, hm⟩ := z_chk_some hm
        refine z_iald C dX4_whereTo_40 1 rfl c9 h_x2 ?_
        refine z_aload_n C dX4_whereTo_41 1 rfl ?_
        refine z_get C zf_X4_15 dX4_whereTo_42 0 rfl rfl ?_
        refine z_iload_n C dX4_whereTo_45 3 rfl ?_
        obtain ⟨c10, hm⟩ := z_chk_some hm
        refine z_iald C dX4_whereTo_46 2 rfl c10 h_x2 ?_
        obtain ⟨c11, hm⟩ := z_chk_some hm
        refine z_iadd C dX4_whereTo_47 ?_
        refine z_istore C dX4_whereTo_48 (by decide) (L' := [(4, z_i ((t_height x2) + (t_drops x2))), (3, z_i (x2 * 4)), (0, .ref t_o), (1, .ref g_o), (2, z_i x2)]) rfl ?_
        refine z_bipush C dX4_whereTo_50 (by decide) ?_
        refine z_istore C dX4_whereTo_52 (by decide) (L' := [(5, z_i (-4)), (4, z_i ((t_height x2) + (t_drops x2))), (3, z_i (x2 * 4)), (0, .ref t_o), (1, .ref g_o), (2, z_i x2)]) rfl ?_
        refine z_iload C dX4_whereTo_54 1 rfl ?_
        refine z_istore C dX4_whereTo_56 (by decide) (L' := [(6, z_i ((t_height x2) + (t_drops x2))), (5, z_i (-4)), (4, z_i ((t_height x2) + (t_drops x2))), (3, z_i (x2 * 4)), (0, .ref t_o), (1, .ref g_o), (2, z_i x2)]) rfl ?_
        refine z_iload_n C dX4_whereTo_58 3 rfl ?_
        refine z_istore C dX4_whereTo_59 (by decide) (L' := [(7, z_i (x2 * 4)), (6, z_i ((t_height x2) + (t_drops x2))), (5, z_i (-4)), (4, z_i ((t_height x2) + (t_drops x2))), (3, z_i (x2 * 4)), (0, .ref t_o), (1, .ref g_o), (2, z_i x2)]) rfl ?_
        obtain ⟨o5_1, hl, hm⟩ := z_b1s hm
        have JX1 : z_n o5_1 → z_J X 0 0 ([(t_o, z_o 4 [.ref t_Aheight, .ref t_Adrops, z_i t_hours, .long t_restless]), (t_Aheight, z_a G.2.1 36 t_height), (t_Adrops, z_a G.2.1 36 t_drops), (g_o, z_o 0 [z_i g_rows, z_i g_columns, z_i g_cells, .ref g_Akind, .ref g_Abeside, .ref g_AbesideBits]), (g_Akind, z_a G.2.1 36 g_kind), (g_Abeside, z_a G.2.1 144 g_beside), (g_AbesideBits, z_l G.2.2.1 36 g_besideBits)]) [(5, z_i o5_1)] 160 [] := by
          intro h_o5_1
          clear hl
          refine z_iload C dX4_whereTo_160 0 rfl ?_
          cases hm
          exact z_iret C E dX4_whereTo_162 ⟨rfl, rfl, h_o5_1, trivial⟩
        clear hm
        have L1 : ∀ (n1 : Nat) (v5_1 : Int) (v6_1 : Int) (v7_1 : Int), z_n v5_1 → z_n v6_1 → z_n v7_1 → m_X4_whereTo_l1 N (x2 * 4) g_beside t_height t_drops ((t_height x2) + (t_drops x2)) g_kind n1 v5_1 v6_1 v7_1 = some (o5_1) → z_J X 0 0 ([(t_o, z_o 4 [.ref t_Aheight, .ref t_Adrops, z_i t_hours, .long t_restless]), (t_Aheight, z_a G.2.1 36 t_height), (t_Adrops, z_a G.2.1 36 t_drops), (g_o, z_o 0 [z_i g_rows, z_i g_columns, z_i g_cells, .ref g_Akind, .ref g_Abeside, .ref g_AbesideBits]), (g_Akind, z_a G.2.1 36 g_kind), (g_Abeside, z_a G.2.1 144 g_beside), (g_AbesideBits, z_l G.2.2.1 36 g_besideBits)]) [(0, .ref t_o), (1, .ref g_o), (3, z_i (x2 * 4)), (4, z_i ((t_height x2) + (t_drops x2))), (5, z_i v5_1), (6, z_i v6_1), (7, z_i v7_1)] 61 [] := by
          clear hl
          intro n1
          induction n1 with
          | zero =>
            intro v5_1 v6_1 v7_1 h_v5_1 h_v6_1 h_v7_1 hm
            rw [m_X4_whereTo_l1] at hm
            cases hm
          | succ n1 ih1 =>
            intro v5_1 v6_1 v7_1 h_v5_1 h_v6_1 h_v7_1 hm
            rw [m_X4_whereTo_l1] at hm
            refine z_iload C dX4_whereTo_61 6 rfl ?_
            refine z_iload_n C dX4_whereTo_63 2 rfl ?_
            refine z_iconst C dX4_whereTo_64 ?_
            obtain ⟨c12, hm⟩ := z_chk_some hm
            refine z_iadd C dX4_whereTo_65 ?_
            refine z_icmp_ge (tgt := 160) C h_v7_1 c12 dX4_whereTo_66 (by decide) (fun c13 => ?_) (fun c13 => ?_)
            · have hm := z_pos c13 hm
              refine z_sub (L' := [(5, z_i v5_1)]) [4] rfl ?_
              cases hm
              exact JX1 h_v5_1
            · have hm := z_neg c13 hm
              refine z_aload_n C dX4_whereTo_69 1 rfl ?_
              refine z_get C zf_X4_92 dX4_whereTo_70 3 rfl rfl ?_
              refine z_iload C dX4_whereTo_73 6 rfl ?_
              obtain ⟨c14, hm⟩ := z_chk_some hm
              refine z_iald C dX4_whereTo_75 5 rfl c14 h_v7_1 ?_
              refine z_istore C dX4_whereTo_76 (by decide) (L' := [(8, z_i (g_beside v7_1)), (0, .ref t_o), (1, .ref g_o), (3, z_i (x2 * 4)), (4, z_i ((t_height x2) + (t_drops x2))), (5, z_i v5_1), (6, z_i v6_1), (7, z_i v7_1)]) rfl ?_
              refine z_iload C dX4_whereTo_78 0 rfl ?_
              refine z_if_lt (tgt := 154) C (h_g_beside _) dX4_whereTo_80 (by decide) (fun c15 => ?_) (fun c15 => ?_)
              · have hm := z_pos c15 hm
                obtain ⟨c16, hm⟩ := z_chk_some hm
                refine z_iinc C dX4_whereTo_154 7 rfl (by decide) (L' := [(7, z_i (v7_1 + 1)), (8, z_i (g_beside v7_1)), (0, .ref t_o), (1, .ref g_o), (3, z_i (x2 * 4)), (4, z_i ((t_height x2) + (t_drops x2))), (5, z_i v5_1), (6, z_i v6_1)]) rfl ?_
                refine z_goto (tgt := 61) C dX4_whereTo_157 (by decide) ?_
                refine z_sub (L' := [(0, .ref t_o), (1, .ref g_o), (3, z_i (x2 * 4)), (4, z_i ((t_height x2) + (t_drops x2))), (5, z_i v5_1), (6, z_i v6_1), (7, z_i (v7_1 + 1))]) [2, 3, 4, 5, 6, 7, 0] rfl ?_
                exact ih1 v5_1 v6_1 (v7_1 + 1) h_v5_1 h_v6_1 c16 hm
              · have hm := z_neg c15 hm
                refine z_iload C dX4_whereTo_83 0 rfl ?_
                refine z_bipush C dX4_whereTo_85 (by decide) ?_
                refine z_icmp_ge (tgt := 154) C (h_g_beside _) (z_k 36 rfl) dX4_whereTo_87 (by decide) (fun c17 => ?_) (fun c17 => ?_)
                · have hm := z_pos c17 hm
                  obtain ⟨c18, hm⟩ := z_chk_some hm
                  refine z_iinc C dX4_whereTo_154 7 rfl (by decide) (L' := [(7, z_i (v7_1 + 1)), (8, z_i (g_beside v7_1)), (0, .ref t_o), (1, .ref g_o), (3, z_i (x2 * 4)), (4, z_i ((t_height x2) + (t_drops x2))), (5, z_i v5_1), (6, z_i v6_1)]) rfl ?_
                  refine z_goto (tgt := 61) C dX4_whereTo_157 (by decide) ?_
                  refine z_sub (L' := [(0, .ref t_o), (1, .ref g_o), (3, z_i (x2 * 4)), (4, z_i ((t_height x2) + (t_drops x2))), (5, z_i v5_1), (6, z_i v6_1), (7, z_i (v7_1 + 1))]) [2, 3, 4, 5, 6, 7, 0] rfl ?_
                  exact ih1 v5_1 v6_1 (v7_1 + 1) h_v5_1 h_v6_1 c18 hm
                · have hm := z_neg c17 hm
                  refine z_aload_n C dX4_whereTo_90 1 rfl ?_
                  refine z_get C zf_X4_9 dX4_whereTo_91 0 rfl rfl ?_
                  refine z_iload C dX4_whereTo_94 0 rfl ?_
                  obtain ⟨c19, hm⟩ := z_chk_some hm
                  refine z_iald C dX4_whereTo_96 1 rfl c19 (h_g_beside _) ?_
                  refine z_aload_n C dX4_whereTo_97 1 rfl ?_
                  refine z_get C zf_X4_15 dX4_whereTo_98 0 rfl rfl ?_
                  refine z_iload C dX4_whereTo_101 0 rfl ?_
                  obtain ⟨c20, hm⟩ := z_chk_some hm
                  refine z_iald C dX4_whereTo_103 2 rfl c20 (h_g_beside _) ?_
                  obtain ⟨c21, hm⟩ := z_chk_some hm
                  refine z_iadd C dX4_whereTo_104 ?_
                  refine z_istore C dX4_whereTo_105 (by decide) (L' := [(9, z_i ((t_height (g_beside v7_1)) + (t_drops (g_beside v7_1)))), (8, z_i (g_beside v7_1)), (0, .ref t_o), (1, .ref g_o), (3, z_i (x2 * 4)), (4, z_i ((t_height x2) + (t_drops x2))), (5, z_i v5_1), (6, z_i v6_1), (7, z_i v7_1)]) rfl ?_
                  refine z_iload C dX4_whereTo_107 0 rfl ?_
                  refine z_iload C dX4_whereTo_109 5 rfl ?_
                  refine z_iconst C dX4_whereTo_111 ?_
                  obtain ⟨c22, hm⟩ := z_chk_some hm
                  refine z_isub C dX4_whereTo_112 ?_
                  obtain ⟨s26, hj, hm⟩ := z_b1s hm
                  have J27 : z_n s26 → (s26 = 0 ∨ s26 = 1) → z_J X 0 0 ([(t_o, z_o 4 [.ref t_Aheight, .ref t_Adrops, z_i t_hours, .long t_restless]), (t_Aheight, z_a G.2.1 36 t_height), (t_Adrops, z_a G.2.1 36 t_drops), (g_o, z_o 0 [z_i g_rows, z_i g_columns, z_i g_cells, .ref g_Akind, .ref g_Abeside, .ref g_AbesideBits]), (g_Akind, z_a G.2.1 36 g_kind), (g_Abeside, z_a G.2.1 144 g_beside), (g_AbesideBits, z_l G.2.2.1 36 g_besideBits)]) [(0, .ref t_o), (1, .ref g_o), (3, z_i (x2 * 4)), (4, z_i ((t_height x2) + (t_drops x2))), (5, z_i v5_1), (6, z_i v6_1), (7, z_i v7_1), (8, z_i (g_beside v7_1)), (9, z_i ((t_height (g_beside v7_1)) + (t_drops (g_beside v7_1))))] 132 [z_i s26] := by
                    intro h_s26 hb_s26
                    clear hj
                    refine z_istore C dX4_whereTo_132 (by decide) (L' := [(10, z_i s26), (0, .ref t_o), (1, .ref g_o), (3, z_i (x2 * 4)), (4, z_i ((t_height x2) + (t_drops x2))), (5, z_i v5_1), (6, z_i v6_1), (7, z_i v7_1), (8, z_i (g_beside v7_1)), (9, z_i ((t_height (g_beside v7_1)) + (t_drops (g_beside v7_1))))]) rfl ?_
                    refine z_iload C dX4_whereTo_134 0 rfl ?_
                    refine z_if_eq (tgt := 154) C h_s26 dX4_whereTo_136 (by decide) (fun c28 => ?_) (fun c28 => ?_)
                    · have hm := z_pos c28 hm
                      obtain ⟨c29, hm⟩ := z_chk_some hm
                      refine z_iinc C dX4_whereTo_154 7 rfl (by decide) (L' := [(7, z_i (v7_1 + 1)), (10, z_i s26), (0, .ref t_o), (1, .ref g_o), (3, z_i (x2 * 4)), (4, z_i ((t_height x2) + (t_drops x2))), (5, z_i v5_1), (6, z_i v6_1), (8, z_i (g_beside v7_1)), (9, z_i ((t_height (g_beside v7_1)) + (t_drops (g_beside v7_1))))]) rfl ?_
                      refine z_goto (tgt := 61) C dX4_whereTo_157 (by decide) ?_
                      refine z_sub (L' := [(0, .ref t_o), (1, .ref g_o), (3, z_i (x2 * 4)), (4, z_i ((t_height x2) + (t_drops x2))), (5, z_i v5_1), (6, z_i v6_1), (7, z_i (v7_1 + 1))]) [2, 3, 4, 5, 6, 7, 0] rfl ?_
                      exact ih1 v5_1 v6_1 (v7_1 + 1) h_v5_1 h_v6_1 c29 hm
                    · have hm := z_neg c28 hm
                      refine z_iload C dX4_whereTo_139 9 rfl ?_
                      refine z_iload C dX4_whereTo_141 6 rfl ?_
                      refine z_icmp_ge (tgt := 154) C c21 h_v6_1 dX4_whereTo_143 (by decide) (fun c30 => ?_) (fun c30 => ?_)
                      · have hm := z_pos c30 hm
                        obtain ⟨c31, hm⟩ := z_chk_some hm
                        refine z_iinc C dX4_whereTo_154 7 rfl (by decide) (L' := [(7, z_i (v7_1 + 1)), (10, z_i s26), (0, .ref t_o), (1, .ref g_o), (3, z_i (x2 * 4)), (4, z_i ((t_height x2) + (t_drops x2))), (5, z_i v5_1), (6, z_i v6_1), (8, z_i (g_beside v7_1)), (9, z_i ((t_height (g_beside v7_1)) + (t_drops (g_beside v7_1))))]) rfl ?_
                        refine z_goto (tgt := 61) C dX4_whereTo_157 (by decide) ?_
                        refine z_sub (L' := [(0, .ref t_o), (1, .ref g_o), (3, z_i (x2 * 4)), (4, z_i ((t_height x2) + (t_drops x2))), (5, z_i v5_1), (6, z_i v6_1), (7, z_i (v7_1 + 1))]) [2, 3, 4, 5, 6, 7, 0] rfl ?_
                        exact ih1 v5_1 v6_1 (v7_1 + 1) h_v5_1 h_v6_1 c31 hm
                      · have hm := z_neg c30 hm
                        refine z_iload C dX4_whereTo_146 8 rfl ?_
                        refine z_istore C dX4_whereTo_148 (by decide) (L' := [(5, z_i (g_beside v7_1)), (10, z_i s26), (0, .ref t_o), (1, .ref g_o), (3, z_i (x2 * 4)), (4, z_i ((t_height x2) + (t_drops x2))), (6, z_i v6_1), (7, z_i v7_1), (8, z_i (g_beside v7_1)), (9, z_i ((t_height (g_beside v7_1)) + (t_drops (g_beside v7_1))))]) rfl ?_
                        refine z_iload C dX4_whereTo_150 9 rfl ?_
                        refine z_istore C dX4_whereTo_152 (by decide) (L' := [(6, z_i ((t_height (g_beside v7_1)) + (t_drops (g_beside v7_1)))), (5, z_i (g_beside v7_1)), (10, z_i s26), (0, .ref t_o), (1, .ref g_o), (3, z_i (x2 * 4)), (4, z_i ((t_height x2) + (t_drops x2))), (7, z_i v7_1), (8, z_i (g_beside v7_1)), (9, z_i ((t_height (g_beside v7_1)) + (t_drops (g_beside v7_1))))]) rfl ?_
                        obtain ⟨c32, hm⟩ := z_chk_some hm
                        refine z_iinc C dX4_whereTo_154 7 rfl (by decide) (L' := [(7, z_i (v7_1 + 1)), (6, z_i ((t_height (g_beside v7_1)) + (t_drops (g_beside v7_1)))), (5, z_i (g_beside v7_1)), (10, z_i s26), (0, .ref t_o), (1, .ref g_o), (3, z_i (x2 * 4)), (4, z_i ((t_height x2) + (t_drops x2))), (8, z_i (g_beside v7_1)), (9, z_i ((t_height (g_beside v7_1)) + (t_drops (g_beside v7_1))))]) rfl ?_
                        refine z_goto (tgt := 61) C dX4_whereTo_157 (by decide) ?_
                        refine z_sub (L' := [(0, .ref t_o), (1, .ref g_o), (3, z_i (x2 * 4)), (4, z_i ((t_height x2) + (t_drops x2))), (5, z_i (g_beside v7_1)), (6, z_i ((t_height (g_beside v7_1)) + (t_drops (g_beside v7_1)))), (7, z_i (v7_1 + 1))]) [4, 5, 6, 7, 2, 1, 0] rfl ?_
                        exact ih1 (g_beside v7_1) ((t_height (g_beside v7_1)) + (t_drops (g_beside v7_1))) (v7_1 + 1) (h_g_beside _) c21 c32 hm
                  replace hm := hj
                  clear hj
                  refine z_icmp_le (tgt := 127) C c21 c22 dX4_whereTo_113 (by decide) (fun c23 => ?_) (fun c23 => ?_)
                  · have hm := z_pos c23 hm
                    refine z_iconst C dX4_whereTo_127 ?_
                    refine z_goto (tgt := 132) C dX4_whereTo_128 (by decide) ?_
                    refine z_sub (L' := [(0, .ref t_o), (1, .ref g_o), (3, z_i (x2 * 4)), (4, z_i ((t_height x2) + (t_drops x2))), (5, z_i v5_1), (6, z_i v6_1), (7, z_i v7_1), (8, z_i (g_beside v7_1)), (9, z_i ((t_height (g_beside v7_1)) + (t_drops (g_beside v7_1))))]) [2, 3, 4, 5, 6, 7, 8, 1, 0] rfl ?_
                    cases hm
                    exact J27 (z_k 1 rfl) (Or.inr rfl)
                  · have hm := z_neg c23 hm
                    refine z_aload_n C dX4_whereTo_116 3 rfl ?_
                    refine z_get C zf_X4_95 dX4_whereTo_117 3 rfl rfl ?_
                    refine z_iload C dX4_whereTo_120 1 rfl ?_
                    obtain ⟨c24, hm⟩ := z_chk_some hm
                    refine z_iald C dX4_whereTo_122 4 rfl c24 (h_g_beside _) ?_
                    refine z_iconst C dX4_whereTo_123 ?_
                    refine z_icmp_ne (tgt := 131) C (h_g_kind _) (z_k 2 rfl) dX4_whereTo_124 (by decide) (fun c25 => ?_) (fun c25 => ?_)
                    · have hm := z_pos c25 hm
                      refine z_iconst C dX4_whereTo_131 ?_
                      refine z_sub (L' := [(0, .ref t_o), (1, .ref g_o), (3, z_i (x2 * 4)), (4, z_i ((t_height x2) + (t_drops x2))), (5, z_i v5_1), (6, z_i v6_1), (7, z_i v7_1), (8, z_i (g_beside v7_1)), (9, z_i ((t_height (g_beside v7_1)) + (t_drops (g_beside v7_1))))]) [2, 3, 4, 5, 6, 7, 8, 1, 0] rfl ?_
                      cases hm
                      exact J27 (z_k 0 rfl) (Or.inl rfl)
                    · have hm := z_neg c25 hm
                      refine z_iconst C dX4_whereTo_127 ?_
                      refine z_goto (tgt := 132) C dX4_whereTo_128 (by decide) ?_
                      refine z_sub (L' := [(0, .ref t_o), (1, .ref g_o), (3, z_i (x2 * 4)), (4, z_i ((t_height x2) + (t_drops x2))), (5, z_i v5_1), (6, z_i v6_1), (7, z_i v7_1), (8, z_i (g_beside v7_1)), (9, z_i ((t_height (g_beside v7_1)) + (t_drops (g_beside v7_1))))]) [2, 3, 4, 5, 6, 7, 8, 1, 0] rfl ?_
                      cases hm
                      exact J27 (z_k 1 rfl) (Or.inr rfl)
        refine z_sub (L' := [(0, .ref t_o), (1, .ref g_o), (3, z_i (x2 * 4)), (4, z_i ((t_height x2) + (t_drops x2))), (5, z_i (-4)), (6, z_i ((t_height x2) + (t_drops x2))), (7, z_i (x2 * 4))]) [5, 6, 4, 3, 2, 1, 0] rfl ?_
        exact L1 N (-4) ((t_height x2) + (t_drops x2)) (x2 * 4) (z_k (-4) rfl) c11 c1 hl
      · have hm := z_neg c8 hm
        refine z_bipush C dX4_whereTo_32 (by decide) ?_
        cases hm
        exact z_iret C E dX4_whereTo_34 ⟨rfl, rfl, (z_k (-4) rfl), trivial⟩
set_option maxRecDepth 100000 in
theorem k_X4_putDrop (l : Launch) (G : z_G) (N : Nat) (t_o t_Aheight t_Adrops g_o g_Akind g_Abeside g_AbesideBits : Nat) (t_height : (Int → Int)) (t_drops : (Int → Int)) (t_hours : Int) (t_restless : Int64) (g_rows : Int) (g_columns : Int) (g_cells : Int) (g_kind : (Int → Int)) (g_beside : (Int → Int)) (g_besideBits : (Int → Int64)) (x2 : Int) (h_t_height : z_r t_height) (h_t_drops : z_r t_drops) (h_t_hours : z_n t_hours) (h_g_rows : z_n g_rows) (h_g_columns : z_n g_columns) (h_g_cells : z_n g_cells) (h_g_kind : z_r g_kind) (h_g_beside : z_r g_beside) (h_x2 : z_n x2) (q_t_drops : (Int → Int)) (hm : m_X4_putDrop N t_drops g_cells g_kind x2 = some (q_t_drops)) : z_M l G yX4_putDrop cX4_putDrop 3 none (k2_rm 2 42) [.ref t_o, .ref g_o, z_i x2] ([(t_o, z_o 4 [.ref t_Aheight, .ref t_Adrops, z_i t_hours, .long t_restless]), (t_Aheight, z_a G.2.1 36 t_height), (t_Adrops, z_a G.2.1 36 t_drops), (g_o, z_o 0 [z_i g_rows, z_i g_columns, z_i g_cells, .ref g_Akind, .ref g_Abeside, .ref g_AbesideBits]), (g_Akind, z_a G.2.1 36 g_kind), (g_Abeside, z_a G.2.1 144 g_beside), (g_AbesideBits, z_l G.2.2.1 36 g_besideBits)]) 0 0 (fun v w => v = none ∧ w = [(t_o, z_o 4 [.ref t_Aheight, .ref t_Adrops, z_i t_hours, .long t_restless]), (t_Aheight, z_a G.2.1 36 t_height), (t_Adrops, z_a G.2.1 36 q_t_drops), (g_o, z_o 0 [z_i g_rows, z_i g_columns, z_i g_cells, .ref g_Akind, .ref g_Abeside, .ref g_AbesideBits]), (g_Akind, z_a G.2.1 36 g_kind), (g_Abeside, z_a G.2.1 144 g_beside), (g_AbesideBits, z_l G.2.2.1 36 g_besideBits)] ∧ z_r q_t_drops ∧ True) := by
  unfold m_X4_putDrop at hm
  refine z_M.intro (by decide +kernel) (Nat.le_of_ble_eq_true rfl) (L := [(0, .ref t_o), (1, .ref g_o), (2, z_i x2)]) rfl (fun X C E => ?_)
  refine z_aload_n C dX4_putDrop_0 1 rfl ?_
  refine z_iload_n C dX4_putDrop_1 2 rfl ?_
  obtain ⟨r1, k2, hm⟩ := z_b1s hm
  refine z_callVi C (k_X0_takesRain l G N g_o g_Akind g_Abeside g_AbesideBits g_rows g_columns g_cells g_kind g_beside g_besideBits x2 h_g_rows h_g_columns h_g_cells h_g_kind h_g_beside h_x2 r1 k2) zv_X0_takesRain zl_X4_43 dX4_putDrop_2 [3, 4, 5, 6] rfl rfl rfl (ws' := [(t_o, z_o 4 [.ref t_Aheight, .ref t_Adrops, z_i t_hours, .long t_restless]), (t_Aheight, z_a G.2.1 36 t_height), (t_Adrops, z_a G.2.1 36 t_drops), (g_o, z_o 0 [z_i g_rows, z_i g_columns, z_i g_cells, .ref g_Akind, .ref g_Abeside, .ref g_AbesideBits]), (g_Akind, z_a G.2.1 36 g_kind), (g_Abeside, z_a G.2.1 144 g_beside), (g_AbesideBits, z_l G.2.2.1 36 g_besideBits)]) rfl 3 rfl rfl rfl [] rfl (Nat.le_of_ble_eq_true rfl) ⟨Nat.le_of_ble_eq_true rfl, Nat.le_of_ble_eq_true rfl⟩ ⟨rfl, rfl⟩ ⟨Nat.zero_le _, Nat.zero_le _⟩ (fun hF => ?_)
  obtain ⟨hb_r1, -⟩ := hF
  refine z_if_eq (tgt := 29) C (z_n01 hb_r1) dX4_putDrop_5 (by decide) (fun c3 => ?_) (fun c3 => ?_)
  · have hm := z_pos c3 hm
    cases hm
    exact z_vret C E dX4_putDrop_29 ⟨rfl, rfl, h_t_drops, trivial⟩
  · have hm := z_neg c3 hm
    refine z_aload_n C dX4_putDrop_8 0 rfl ?_
    refine z_get C zf_X4_15 dX4_putDrop_9 0 rfl rfl ?_
    refine z_iload_n C dX4_putDrop_12 2 rfl ?_
    obtain ⟨c4, hm⟩ := z_chk_some hm
    refine z_iald C dX4_putDrop_13 2 rfl c4 h_x2 ?_
    refine z_bipush C dX4_putDrop_14 (by decide) ?_
    refine z_icmp_ge (tgt := 29) C (h_t_drops _) (z_k 60 rfl) dX4_putDrop_16 (by decide) (fun c5 => ?_) (fun c5 => ?_)
    · have hm := z_pos c5 hm
      cases hm
      exact z_vret C E dX4_putDrop_29 ⟨rfl, rfl, h_t_drops, trivial⟩
    · have hm := z_neg c5 hm
      refine z_aload_n C dX4_putDrop_19 0 rfl ?_
      refine z_get C zf_X4_15 dX4_putDrop_20 0 rfl rfl ?_
      refine z_iload_n C dX4_putDrop_23 2 rfl ?_
      refine z_dup2 C rfl rfl dX4_putDrop_24 ?_
      obtain ⟨c6, hm⟩ := z_chk_some hm
      refine z_iald C dX4_putDrop_25 2 rfl c6 h_x2 ?_
      refine z_iconst C dX4_putDrop_26 ?_
      obtain ⟨c7, hm⟩ := z_chk_some hm
      refine z_iadd C dX4_putDrop_27 ?_
      obtain ⟨c8, hm⟩ := z_chk_some hm
      refine z_iast C dX4_putDrop_28 2 rfl c8 h_x2 (ws' := [(t_o, z_o 4 [.ref t_Aheight, .ref t_Adrops, z_i t_hours, .long t_restless]), (t_Aheight, z_a G.2.1 36 t_height), (t_Adrops, z_a G.2.1 36 (z_up t_drops x2 ((t_drops x2) + 1))), (g_o, z_o 0 [z_i g_rows, z_i g_columns, z_i g_cells, .ref g_Akind, .ref g_Abeside, .ref g_AbesideBits]), (g_Akind, z_a G.2.1 36 g_kind), (g_Abeside, z_a G.2.1 144 g_beside), (g_AbesideBits, z_l G.2.2.1 36 g_besideBits)]) rfl ?_
      cases hm
      exact z_vret C E dX4_putDrop_29 ⟨rfl, rfl, (z_r_up h_t_drops c7), trivial⟩
set_option maxRecDepth 100000 in
theorem k_X0_bitsBeside (l : Launch) (G : z_G) (N : Nat) (t_o t_Akind t_Abeside t_AbesideBits : Nat) (t_rows : Int) (t_columns : Int) (t_cells : Int) (t_kind : (Int → Int)) (t_beside : (Int → Int)) (t_besideBits : (Int → Int64)) (x1 : Int) (h_t_rows : z_n t_rows) (h_t_columns : z_n t_columns) (h_t_cells : z_n t_cells) (h_t_kind : z_r t_kind) (h_t_beside : z_r t_beside) (h_x1 : z_n x1) (rr : Int64) (hm : m_X0_bitsBeside N t_cells t_besideBits x1 = some (rr)) : z_M l G yX0_bitsBeside cX0_bitsBeside 2 (some .long) (k2_rm 1 21) [.ref t_o, z_i x1] ([(t_o, z_o 0 [z_i t_rows, z_i t_columns, z_i t_cells, .ref t_Akind, .ref t_Abeside, .ref t_AbesideBits]), (t_Akind, z_a G.2.1 36 t_kind), (t_Abeside, z_a G.2.1 144 t_beside), (t_AbesideBits, z_l G.2.2.1 36 t_besideBits)]) 0 0 (fun v w => v = some (.long rr) ∧ w = [(t_o, z_o 0 [z_i t_rows, z_i t_columns, z_i t_cells, .ref t_Akind, .ref t_Abeside, .ref t_AbesideBits]), (t_Akind, z_a G.2.1 36 t_kind), (t_Abeside, z_a G.2.1 144 t_beside), (t_AbesideBits, z_l G.2.2.1 36 t_besideBits)] ∧ True) := by
  unfold m_X0_bitsBeside at hm
  refine z_M.intro (by decide +kernel) (Nat.le_of_ble_eq_true rfl) (L := [(0, .ref t_o), (1, z_i x1)]) rfl (fun X C E => ?_)
  refine z_aload_n C dX0_bitsBeside_0 0 rfl ?_
  refine z_iload_n C dX0_bitsBeside_1 1 rfl ?_
  obtain ⟨r1, k2, hm⟩ := z_b1s hm
  refine z_callVi C (k_X0_holds l G N t_o t_Akind t_Abeside t_AbesideBits t_rows t_columns t_cells t_kind t_beside t_besideBits x1 h_t_rows h_t_columns h_t_cells h_t_kind h_t_beside h_x1 r1 k2) zv_X0_holds zl_X0_46 dX0_bitsBeside_2 [0, 1, 2, 3] rfl rfl rfl (ws' := [(t_o, z_o 0 [z_i t_rows, z_i t_columns, z_i t_cells, .ref t_Akind, .ref t_Abeside, .ref t_AbesideBits]), (t_Akind, z_a G.2.1 36 t_kind), (t_Abeside, z_a G.2.1 144 t_beside), (t_AbesideBits, z_l G.2.2.1 36 t_besideBits)]) rfl 0 rfl rfl rfl [] rfl (Nat.le_of_ble_eq_true rfl) ⟨Nat.le_of_ble_eq_true rfl, Nat.le_of_ble_eq_true rfl⟩ ⟨rfl, rfl⟩ ⟨Nat.zero_le _, Nat.zero_le _⟩ (fun hF => ?_)
  obtain ⟨hb_r1, -⟩ := hF
  refine z_if_eq (tgt := 17) C (z_n01 hb_r1) dX0_bitsBeside_5 (by decide) (fun c3 => ?_) (fun c3 => ?_)
  · have hm := z_pos c3 hm
    refine z_lconst (v := (0 : Int64)) C dX0_bitsBeside_17 (by decide) ?_
    cases hm
    exact z_lret C E dX0_bitsBeside_18 ⟨rfl, rfl, trivial⟩
  · have hm := z_neg c3 hm
    refine z_aload_n C dX0_bitsBeside_8 0 rfl ?_
    refine z_get C zf_X0_28 dX0_bitsBeside_9 0 rfl rfl ?_
    refine z_iload_n C dX0_bitsBeside_12 1 rfl ?_
    obtain ⟨c4, hm⟩ := z_chk_some hm
    refine z_lald C dX0_bitsBeside_13 3 rfl c4 h_x1 ?_
    refine z_goto (tgt := 18) C dX0_bitsBeside_14 (by decide) ?_
    cases hm
    exact z_lret C E dX0_bitsBeside_18 ⟨rfl, rfl, trivial⟩
set_option maxRecDepth 100000 in
theorem k_X4_flowFrom (l : Launch) (G : z_G) (N : Nat) (t_o t_Aheight t_Adrops g_o g_Akind g_Abeside g_AbesideBits : Nat) (t_height : (Int → Int)) (t_drops : (Int → Int)) (t_hours : Int) (t_restless : Int64) (g_rows : Int) (g_columns : Int) (g_cells : Int) (g_kind : (Int → Int)) (g_beside : (Int → Int)) (g_besideBits : (Int → Int64)) (x2 : Int) (h_t_height : z_r t_height) (h_t_drops : z_r t_drops) (h_t_hours : z_n t_hours) (h_g_rows : z_n g_rows) (h_g_columns : z_n g_columns) (h_g_cells : z_n g_cells) (h_g_kind : z_r g_kind) (h_g_beside : z_r g_beside) (h_x2 : z_n x2) (q_t_drops : (Int → Int)) (q_t_restless : Int64) (hm : m_X4_flowFrom N t_height t_drops t_restless g_cells g_kind g_beside g_besideBits x2 = some (q_t_drops, q_t_restless)) : z_M l G yX4_flowFrom cX4_flowFrom 4 none (k2_rm 3 64) [.ref t_o, .ref g_o, z_i x2] ([(t_o, z_o 4 [.ref t_Aheight, .ref t_Adrops, z_i t_hours, .long t_restless]), (t_Aheight, z_a G.2.1 36 t_height), (t_Adrops, z_a G.2.1 36 t_drops), (g_o, z_o 0 [z_i g_rows, z_i g_columns, z_i g_cells, .ref g_Akind, .ref g_Abeside, .ref g_AbesideBits]), (g_Akind, z_a G.2.1 36 g_kind), (g_Abeside, z_a G.2.1 144 g_beside), (g_AbesideBits, z_l G.2.2.1 36 g_besideBits)]) 0 0 (fun v w => v = none ∧ w = [(t_o, z_o 4 [.ref t_Aheight, .ref t_Adrops, z_i t_hours, .long q_t_restless]), (t_Aheight, z_a G.2.1 36 t_height), (t_Adrops, z_a G.2.1 36 q_t_drops), (g_o, z_o 0 [z_i g_rows, z_i g_columns, z_i g_cells, .ref g_Akind, .ref g_Abeside, .ref g_AbesideBits]), (g_Akind, z_a G.2.1 36 g_kind), (g_Abeside, z_a G.2.1 144 g_beside), (g_AbesideBits, z_l G.2.2.1 36 g_besideBits)] ∧ z_r q_t_drops ∧ True) := by
  unfold m_X4_flowFrom at hm
  refine z_M.intro (by decide +kernel) (Nat.le_of_ble_eq_true rfl) (L := [(0, .ref t_o), (1, .ref g_o), (2, z_i x2)]) rfl (fun X C E => ?_)
  refine z_aload_n C dX4_flowFrom_0 0 rfl ?_
  refine z_aload_n C dX4_flowFrom_1 1 rfl ?_
  refine z_iload_n C dX4_flowFrom_2 2 rfl ?_
  obtain ⟨r1, k2, hm⟩ := z_b1s hm
  refine z_callVid C (k_X4_whereTo l G N t_o t_Aheight t_Adrops g_o g_Akind g_Abeside g_AbesideBits t_height t_drops t_hours t_restless g_rows g_columns g_cells g_kind g_beside g_besideBits x2 h_t_height h_t_drops h_t_hours h_g_rows h_g_columns h_g_cells h_g_kind h_g_beside h_x2 r1 k2) zv_X4_whereTo zl_X4_82 dX4_flowFrom_3 rfl 0 rfl rfl rfl [] rfl (Nat.le_of_ble_eq_true rfl) ⟨Nat.le_of_ble_eq_true rfl, Nat.le_of_ble_eq_true rfl⟩ ⟨rfl, rfl⟩ ⟨Nat.zero_le _, Nat.zero_le _⟩ (fun hF => ?_)
  obtain ⟨h_r1, -⟩ := hF
  refine z_istore_n C dX4_flowFrom_6 (by decide) (L' := [(3, z_i r1), (0, .ref t_o), (1, .ref g_o), (2, z_i x2)]) rfl ?_
  refine z_iload_n C dX4_flowFrom_7 0 rfl ?_
  refine z_bipush C dX4_flowFrom_8 (by decide) ?_
  refine z_icmp_ne (tgt := 32) C h_r1 (z_k (-4) rfl) dX4_flowFrom_10 (by decide) (fun c3 => ?_) (fun c3 => ?_)
  · have hm := z_pos c3 hm
    refine z_aload_n C dX4_flowFrom_32 1 rfl ?_
    refine z_get C zf_X4_15 dX4_flowFrom_33 0 rfl rfl ?_
    refine z_iload_n C dX4_flowFrom_36 3 rfl ?_
    refine z_dup2 C rfl rfl dX4_flowFrom_37 ?_
    obtain ⟨c4, hm⟩ := z_chk_some hm
    refine z_iald C dX4_flowFrom_38 2 rfl c4 h_x2 ?_
    refine z_iconst C dX4_flowFrom_39 ?_
    obtain ⟨c5, hm⟩ := z_chk_some hm
    refine z_isub C dX4_flowFrom_40 ?_
    obtain ⟨c6, hm⟩ := z_chk_some hm
    refine z_iast C dX4_flowFrom_41 2 rfl c6 h_x2 (ws' := [(t_o, z_o 4 [.ref t_Aheight, .ref t_Adrops, z_i t_hours, .long t_restless]), (t_Aheight, z_a G.2.1 36 t_height), (t_Adrops, z_a G.2.1 36 (z_up t_drops x2 ((t_drops x2) - 1))), (g_o, z_o 0 [z_i g_rows, z_i g_columns, z_i g_cells, .ref g_Akind, .ref g_Abeside, .ref g_AbesideBits]), (g_Akind, z_a G.2.1 36 g_kind), (g_Abeside, z_a G.2.1 144 g_beside), (g_AbesideBits, z_l G.2.2.1 36 g_besideBits)]) rfl ?_
    refine z_aload_n C dX4_flowFrom_42 1 rfl ?_
    refine z_aload_n C dX4_flowFrom_43 2 rfl ?_
    refine z_iload_n C dX4_flowFrom_44 0 rfl ?_
    obtain ⟨t_drops_7, k8, hm⟩ := z_b1s hm
    refine z_callVvd C (k_X4_putDrop l G N t_o t_Aheight t_Adrops g_o g_Akind g_Abeside g_AbesideBits t_height (z_up t_drops x2 ((t_drops x2) - 1)) t_hours t_restless g_rows g_columns g_cells g_kind g_beside g_besideBits r1 h_t_height (z_r_up h_t_drops c5) h_t_hours h_g_rows h_g_columns h_g_cells h_g_kind h_g_beside h_r1 t_drops_7 k8) zv_X4_putDrop zl_X4_64 dX4_flowFrom_45 rfl 0 rfl rfl rfl [] rfl (Nat.le_of_ble_eq_true rfl) ⟨Nat.le_of_ble_eq_true rfl, Nat.le_of_ble_eq_true rfl⟩ ⟨rfl, rfl⟩ ⟨Nat.zero_le _, Nat.zero_le _⟩ (fun hF => ?_)
    obtain ⟨h_t_drops_7, -⟩ := hF
    refine z_aload_n C dX4_flowFrom_48 1 rfl ?_
    refine z_dup C rfl dX4_flowFrom_49 ?_
    refine z_get C zf_X4_22 dX4_flowFrom_50 0 rfl rfl ?_
    refine z_aload_n C dX4_flowFrom_53 2 rfl ?_
    refine z_iload_n C dX4_flowFrom_54 3 rfl ?_
    obtain ⟨r9, k10, hm⟩ := z_b1s hm
    refine z_callVi C (k_X0_bitsBeside l G N g_o g_Akind g_Abeside g_AbesideBits g_rows g_columns g_cells g_kind g_beside g_besideBits x2 h_g_rows h_g_columns h_g_cells h_g_kind h_g_beside h_x2 r9 k10) zv_X0_bitsBeside zl_X4_88 dX4_flowFrom_55 [3, 4, 5, 6] rfl rfl rfl (ws' := [(t_o, z_o 4 [.ref t_Aheight, .ref t_Adrops, z_i t_hours, .long t_restless]), (t_Aheight, z_a G.2.1 36 t_height), (t_Adrops, z_a G.2.1 36 t_drops_7), (g_o, z_o 0 [z_i g_rows, z_i g_columns, z_i g_cells, .ref g_Akind, .ref g_Abeside, .ref g_AbesideBits]), (g_Akind, z_a G.2.1 36 g_kind), (g_Abeside, z_a G.2.1 144 g_beside), (g_AbesideBits, z_l G.2.2.1 36 g_besideBits)]) rfl 3 rfl rfl rfl [.long t_restless, .ref t_o] rfl (Nat.le_of_ble_eq_true rfl) ⟨Nat.le_of_ble_eq_true rfl, Nat.le_of_ble_eq_true rfl⟩ ⟨rfl, rfl⟩ ⟨Nat.zero_le _, Nat.zero_le _⟩ (fun hF => ?_)
    refine z_lor C dX4_flowFrom_58 ?_
    refine z_putl C zf_X4_22 dX4_flowFrom_59 0 rfl rfl (ws' := [(t_o, z_o 4 [.ref t_Aheight, .ref t_Adrops, z_i t_hours, .long (t_restless ||| r9)]), (t_Aheight, z_a G.2.1 36 t_height), (t_Adrops, z_a G.2.1 36 t_drops_7), (g_o, z_o 0 [z_i g_rows, z_i g_columns, z_i g_cells, .ref g_Akind, .ref g_Abeside, .ref g_AbesideBits]), (g_Akind, z_a G.2.1 36 g_kind), (g_Abeside, z_a G.2.1 144 g_beside), (g_AbesideBits, z_l G.2.2.1 36 g_besideBits)]) rfl ?_
    cases hm
    exact z_vret C E dX4_flowFrom_62 ⟨rfl, rfl, h_t_drops_7, trivial⟩
  · have hm := z_neg c3 hm
    refine z_aload_n C dX4_flowFrom_13 1 rfl ?_
    refine z_dup C rfl dX4_flowFrom_14 ?_
    refine z_get C zf_X4_22 dX4_flowFrom_15 0 rfl rfl ?_
    refine z_lconst (v := (1 : Int64)) C dX4_flowFrom_18 (by decide) ?_
    refine z_iload_n C dX4_flowFrom_19 3 rfl ?_
    refine z_lshlR C dX4_flowFrom_20 ?_
    refine z_ldc2 C zc_X4_86 dX4_flowFrom_21 ?_
    refine z_lxor C dX4_flowFrom_24 ?_
    refine z_land C dX4_flowFrom_25 ?_
    refine z_putl C zf_X4_22 dX4_flowFrom_26 0 rfl rfl (ws' := [(t_o, z_o 4 [.ref t_Aheight, .ref t_Adrops, z_i t_hours, .long (t_restless &&& ((z_lshl (1 : Int64) x2) ^^^ (-1 : Int64)))]), (t_Aheight, z_a G.2.1 36 t_height), (t_Adrops, z_a G.2.1 36 t_drops), (g_o, z_o 0 [z_i g_rows, z_i g_columns, z_i g_cells, .ref g_Akind, .ref g_Abeside, .ref g_AbesideBits]), (g_Akind, z_a G.2.1 36 g_kind), (g_Abeside, z_a G.2.1 144 g_beside), (g_AbesideBits, z_l G.2.2.1 36 g_besideBits)]) rfl ?_
    refine z_goto (tgt := 62) C dX4_flowFrom_29 (by decide) ?_
    cases hm
    exact z_vret C E dX4_flowFrom_62 ⟨rfl, rfl, h_t_drops, trivial⟩
set_option maxRecDepth 100000 in
theorem k_X4_flow (l : Launch) (G : z_G) (N : Nat) (t_o t_Aheight t_Adrops g_o g_Akind g_Abeside g_AbesideBits : Nat) (t_height : (Int → Int)) (t_drops : (Int → Int)) (t_hours : Int) (t_restless : Int64) (g_rows : Int) (g_columns : Int) (g_cells : Int) (g_kind : (Int → Int)) (g_beside : (Int → Int)) (g_besideBits : (Int → Int64)) (h_t_height : z_r t_height) (h_t_drops : z_r t_drops) (h_t_hours : z_n t_hours) (h_g_rows : z_n g_rows) (h_g_columns : z_n g_columns) (h_g_cells : z_n g_cells) (h_g_kind : z_r g_kind) (h_g_beside : z_r g_beside) (q_t_drops : (Int → Int)) (q_t_restless : Int64) (hm : m_X4_flow N t_height t_drops t_restless g_cells g_kind g_beside g_besideBits = some (q_t_drops, q_t_restless)) : z_M l G yX4_flow cX4_flow 4 none (k2_rm 4 87) [.ref t_o, .ref g_o] ([(t_o, z_o 4 [.ref t_Aheight, .ref t_Adrops, z_i t_hours, .long t_restless]), (t_Aheight, z_a G.2.1 36 t_height), (t_Adrops, z_a G.2.1 36 t_drops), (g_o, z_o 0 [z_i g_rows, z_i g_columns, z_i g_cells, .ref g_Akind, .ref g_Abeside, .ref g_AbesideBits]), (g_Akind, z_a G.2.1 36 g_kind), (g_Abeside, z_a G.2.1 144 g_beside), (g_AbesideBits, z_l G.2.2.1 36 g_besideBits)]) 0 0 (fun v w => v = none ∧ w = [(t_o, z_o 4 [.ref t_Aheight, .ref t_Adrops, z_i t_hours, .long q_t_restless]), (t_Aheight, z_a G.2.1 36 t_height), (t_Adrops, z_a G.2.1 36 q_t_drops), (g_o, z_o 0 [z_i g_rows, z_i g_columns, z_i g_cells, .ref g_Akind, .ref g_Abeside, .ref g_AbesideBits]), (g_Akind, z_a G.2.1 36 g_kind), (g_Abeside, z_a G.2.1 144 g_beside), (g_AbesideBits, z_l G.2.2.1 36 g_besideBits)] ∧ z_r q_t_drops ∧ True) := by
  unfold m_X4_flow at hm
  refine z_M.intro (by decide +kernel) (Nat.le_of_ble_eq_true rfl) (L := [(0, .ref t_o), (1, .ref g_o)]) rfl (fun X C E => ?_)
  refine z_aload_n C dX4_flow_0 0 rfl ?_
  refine z_aload_n C dX4_flow_1 0 rfl ?_
  refine z_aload_n C dX4_flow_2 1 rfl ?_
  obtain ⟨r1, k2, hm⟩ := z_b1s hm
  refine z_callVid C (k_X4_wetBits l G N t_o t_Aheight t_Adrops g_o g_Akind g_Abeside g_AbesideBits t_height t_drops t_hours t_restless g_rows g_columns g_cells g_kind g_beside g_besideBits h_t_height h_t_drops h_t_hours h_g_rows h_g_columns h_g_cells h_g_kind h_g_beside r1 k2) zv_X4_wetBits zl_X4_74 dX4_flow_3 rfl 0 rfl rfl rfl [.ref t_o] rfl (Nat.le_of_ble_eq_true rfl) ⟨Nat.le_of_ble_eq_true rfl, Nat.le_of_ble_eq_true rfl⟩ ⟨rfl, rfl⟩ ⟨Nat.zero_le _, Nat.zero_le _⟩ (fun hF => ?_)
  refine z_putl C zf_X4_22 dX4_flow_6 0 rfl rfl (ws' := [(t_o, z_o 4 [.ref t_Aheight, .ref t_Adrops, z_i t_hours, .long r1]), (t_Aheight, z_a G.2.1 36 t_height), (t_Adrops, z_a G.2.1 36 t_drops), (g_o, z_o 0 [z_i g_rows, z_i g_columns, z_i g_cells, .ref g_Akind, .ref g_Abeside, .ref g_AbesideBits]), (g_Akind, z_a G.2.1 36 g_kind), (g_Abeside, z_a G.2.1 144 g_beside), (g_AbesideBits, z_l G.2.2.1 36 g_besideBits)]) rfl ?_
  refine z_iconst C dX4_flow_9 ?_
  refine z_istore_n C dX4_flow_10 (by decide) (L' := [(2, z_i 0), (0, .ref t_o), (1, .ref g_o)]) rfl ?_
  obtain ⟨o_t_drops_1, o_t_restless_1, hl, hm⟩ := z_b2s hm
  have JX1 : z_r o_t_drops_1 → z_J X 0 0 ([(t_o, z_o 4 [.ref t_Aheight, .ref t_Adrops, z_i t_hours, .long o_t_restless_1]), (t_Aheight, z_a G.2.1 36 t_height), (t_Adrops, z_a G.2.1 36 o_t_drops_1), (g_o, z_o 0 [z_i g_rows, z_i g_columns, z_i g_cells, .ref g_Akind, .ref g_Abeside, .ref g_AbesideBits]), (g_Akind, z_a G.2.1 36 g_kind), (g_Abeside, z_a G.2.1 144 g_beside), (g_AbesideBits, z_l G.2.2.1 36 g_besideBits)]) [] 73 [] := by
    intro h_o_t_drops_1
    clear hl
    cases hm
    exact z_vret C E dX4_flow_73 ⟨rfl, rfl, h_o_t_drops_1, trivial⟩
  clear hm
  have L1 : ∀ (n1 : Nat) (v2_1 : Int) (t_drops_1 : (Int → Int)) (t_restless_1 : Int64), z_n v2_1 → z_r t_drops_1 → m_X4_flow_l1 N g_cells t_height g_kind g_beside g_besideBits n1 v2_1 t_drops_1 t_restless_1 = some (o_t_drops_1, o_t_restless_1) → z_J X 0 0 ([(t_o, z_o 4 [.ref t_Aheight, .ref t_Adrops, z_i t_hours, .long t_restless_1]), (t_Aheight, z_a G.2.1 36 t_height), (t_Adrops, z_a G.2.1 36 t_drops_1), (g_o, z_o 0 [z_i g_rows, z_i g_columns, z_i g_cells, .ref g_Akind, .ref g_Abeside, .ref g_AbesideBits]), (g_Akind, z_a G.2.1 36 g_kind), (g_Abeside, z_a G.2.1 144 g_beside), (g_AbesideBits, z_l G.2.2.1 36 g_besideBits)]) [(0, .ref t_o), (1, .ref g_o), (2, z_i v2_1)] 11 [] := by
    clear hl
    intro n1
    induction n1 with
    | zero =>
      intro v2_1 t_drops_1 t_restless_1 h_v2_1 h_t_drops_1 hm
      rw [m_X4_flow_l1] at hm
      cases hm
    | succ n1 ih1 =>
      intro v2_1 t_drops_1 t_restless_1 h_v2_1 h_t_drops_1 hm
      rw [m_X4_flow_l1] at hm
      refine z_aload_n C dX4_flow_11 0 rfl ?_
      refine z_get C zf_X4_22 dX4_flow_12 0 rfl rfl ?_
      refine z_lconst (v := (0 : Int64)) C dX4_flow_15 (by decide) ?_
      refine z_lcmpR C dX4_flow_16 ?_
      refine z_if_eq (tgt := 73) C (z_n_lcmp _ _) dX4_flow_17 (by decide) (fun c3 => ?_) (fun c3 => ?_)
      · have hm := z_pos c3 hm
        refine z_sub (L' := []) [] rfl ?_
        cases hm
        exact JX1 h_t_drops_1
      · have hm := z_neg c3 hm
        refine z_iload_n C dX4_flow_20 2 rfl ?_
        refine z_ldc C zc_X4_78 dX4_flow_21 ?_
        refine z_icmp_ge (tgt := 73) C h_v2_1 (z_k 1000000 rfl) dX4_flow_23 (by decide) (fun c4 => ?_) (fun c4 => ?_)
        · have hm := z_pos c4 hm
          refine z_sub (L' := []) [] rfl ?_
          cases hm
          exact JX1 h_t_drops_1
        · have hm := z_neg c4 hm
          refine z_iconst C dX4_flow_26 ?_
          refine z_istore_n C dX4_flow_27 (by decide) (L' := [(3, z_i 0), (0, .ref t_o), (1, .ref g_o), (2, z_i v2_1)]) rfl ?_
          obtain ⟨o_t_drops_2, o_t_restless_2, hl, hm⟩ := z_b2s hm
          have JX2 : z_r o_t_drops_2 → z_J X 0 0 ([(t_o, z_o 4 [.ref t_Aheight, .ref t_Adrops, z_i t_hours, .long o_t_restless_2]), (t_Aheight, z_a G.2.1 36 t_height), (t_Adrops, z_a G.2.1 36 o_t_drops_2), (g_o, z_o 0 [z_i g_rows, z_i g_columns, z_i g_cells, .ref g_Akind, .ref g_Abeside, .ref g_AbesideBits]), (g_Akind, z_a G.2.1 36 g_kind), (g_Abeside, z_a G.2.1 144 g_beside), (g_AbesideBits, z_l G.2.2.1 36 g_besideBits)]) [(0, .ref t_o), (1, .ref g_o), (2, z_i v2_1)] 67 [] := by
            intro h_o_t_drops_2
            clear hl
            obtain ⟨c13, hm⟩ := z_chk_some hm
            refine z_iinc C dX4_flow_67 2 rfl (by decide) (L' := [(2, z_i (v2_1 + 1)), (0, .ref t_o), (1, .ref g_o)]) rfl ?_
            refine z_goto (tgt := 11) C dX4_flow_70 (by decide) ?_
            refine z_sub (L' := [(0, .ref t_o), (1, .ref g_o), (2, z_i (v2_1 + 1))]) [1, 2, 0] rfl ?_
            exact ih1 (v2_1 + 1) o_t_drops_2 o_t_restless_2 c13 h_o_t_drops_2 hm
          clear hm
          have L2 : ∀ (n2 : Nat) (v3_2 : Int) (t_drops_2 : (Int → Int)) (t_restless_2 : Int64), z_n v3_2 → z_r t_drops_2 → m_X4_flow_l2 N g_cells t_height g_kind g_beside g_besideBits n2 v3_2 t_drops_2 t_restless_2 = some (o_t_drops_2, o_t_restless_2) → z_J X 0 0 ([(t_o, z_o 4 [.ref t_Aheight, .ref t_Adrops, z_i t_hours, .long t_restless_2]), (t_Aheight, z_a G.2.1 36 t_height), (t_Adrops, z_a G.2.1 36 t_drops_2), (g_o, z_o 0 [z_i g_rows, z_i g_columns, z_i g_cells, .ref g_Akind, .ref g_Abeside, .ref g_AbesideBits]), (g_Akind, z_a G.2.1 36 g_kind), (g_Abeside, z_a G.2.1 144 g_beside), (g_AbesideBits, z_l G.2.2.1 36 g_besideBits)]) [(0, .ref t_o), (1, .ref g_o), (2, z_i v2_1), (3, z_i v3_2)] 28 [] := by
            clear hl
            intro n2
            induction n2 with
            | zero =>
              intro v3_2 t_drops_2 t_restless_2 h_v3_2 h_t_drops_2 hm
              rw [m_X4_flow_l2] at hm
              cases hm
            | succ n2 ih2 =>
              intro v3_2 t_drops_2 t_restless_2 h_v3_2 h_t_drops_2 hm
              rw [m_X4_flow_l2] at hm
              refine z_iload_n C dX4_flow_28 3 rfl ?_
              refine z_aload_n C dX4_flow_29 1 rfl ?_
              refine z_get C zf_X4_38 dX4_flow_30 3 rfl rfl ?_
              refine z_icmp_ge (tgt := 67) C h_v3_2 h_g_cells dX4_flow_33 (by decide) (fun c5 => ?_) (fun c5 => ?_)
              · have hm := z_pos c5 hm
                refine z_sub (L' := [(0, .ref t_o), (1, .ref g_o), (2, z_i v2_1)]) [0, 1, 2] rfl ?_
                cases hm
                exact JX2 h_t_drops_2
              · have hm := z_neg c5 hm
                refine z_iload_n C dX4_flow_36 3 rfl ?_
                refine z_bipush C dX4_flow_37 (by decide) ?_
                refine z_icmp_ge (tgt := 67) C h_v3_2 (z_k 36 rfl) dX4_flow_39 (by decide) (fun c6 => ?_) (fun c6 => ?_)
                · have hm := z_pos c6 hm
                  refine z_sub (L' := [(0, .ref t_o), (1, .ref g_o), (2, z_i v2_1)]) [0, 1, 2] rfl ?_
                  cases hm
                  exact JX2 h_t_drops_2
                · have hm := z_neg c6 hm
                  refine z_aload_n C dX4_flow_42 0 rfl ?_
                  refine z_get C zf_X4_22 dX4_flow_43 0 rfl rfl ?_
                  refine z_iload_n C dX4_flow_46 3 rfl ?_
                  refine z_lshrR C dX4_flow_47 ?_
                  refine z_lconst (v := (1 : Int64)) C dX4_flow_48 (by decide) ?_
                  refine z_land C dX4_flow_49 ?_
                  refine z_lconst (v := (1 : Int64)) C dX4_flow_50 (by decide) ?_
                  refine z_lcmpR C dX4_flow_51 ?_
                  refine z_if_ne (tgt := 61) C (z_n_lcmp _ _) dX4_flow_52 (by decide) (fun c7 => ?_) (fun c7 => ?_)
                  · have hm := z_pos c7 hm
                    obtain ⟨c8, hm⟩ := z_chk_some hm
                    refine z_iinc C dX4_flow_61 3 rfl (by decide) (L' := [(3, z_i (v3_2 + 1)), (0, .ref t_o), (1, .ref g_o), (2, z_i v2_1)]) rfl ?_
                    refine z_goto (tgt := 28) C dX4_flow_64 (by decide) ?_
                    refine z_sub (L' := [(0, .ref t_o), (1, .ref g_o), (2, z_i v2_1), (3, z_i (v3_2 + 1))]) [1, 2, 3, 0] rfl ?_
                    exact ih2 (v3_2 + 1) t_drops_2 t_restless_2 c8 h_t_drops_2 hm
                  · have hm := z_neg c7 hm
                    refine z_aload_n C dX4_flow_55 0 rfl ?_
                    refine z_aload_n C dX4_flow_56 1 rfl ?_
                    refine z_iload_n C dX4_flow_57 3 rfl ?_
                    obtain ⟨t_drops_9, t_restless_10, k11, hm⟩ := z_b2s hm
                    refine z_callVvd C (k_X4_flowFrom l G N t_o t_Aheight t_Adrops g_o g_Akind g_Abeside g_AbesideBits t_height t_drops_2 t_hours t_restless_2 g_rows g_columns g_cells g_kind g_beside g_besideBits v3_2 h_t_height h_t_drops_2 h_t_hours h_g_rows h_g_columns h_g_cells h_g_kind h_g_beside h_v3_2 t_drops_9 t_restless_10 k11) zv_X4_flowFrom zl_X4_79 dX4_flow_58 rfl 0 rfl rfl rfl [] rfl (Nat.le_of_ble_eq_true rfl) ⟨Nat.le_of_ble_eq_true rfl, Nat.le_of_ble_eq_true rfl⟩ ⟨rfl, rfl⟩ ⟨Nat.zero_le _, Nat.zero_le _⟩ (fun hF => ?_)
                    obtain ⟨h_t_drops_9, -⟩ := hF
                    obtain ⟨c12, hm⟩ := z_chk_some hm
                    refine z_iinc C dX4_flow_61 3 rfl (by decide) (L' := [(3, z_i (v3_2 + 1)), (0, .ref t_o), (1, .ref g_o), (2, z_i v2_1)]) rfl ?_
                    refine z_goto (tgt := 28) C dX4_flow_64 (by decide) ?_
                    refine z_sub (L' := [(0, .ref t_o), (1, .ref g_o), (2, z_i v2_1), (3, z_i (v3_2 + 1))]) [1, 2, 3, 0] rfl ?_
                    exact ih2 (v3_2 + 1) t_drops_9 t_restless_10 c12 h_t_drops_9 hm
          refine z_sub (L' := [(0, .ref t_o), (1, .ref g_o), (2, z_i v2_1), (3, z_i 0)]) [1, 2, 3, 0] rfl ?_
          exact L2 N 0 t_drops_1 t_restless_1 (z_k 0 rfl) h_t_drops_1 hl
  refine z_sub (L' := [(0, .ref t_o), (1, .ref g_o), (2, z_i 0)]) [1, 2, 0] rfl ?_
  exact L1 N 0 t_drops r1 (z_k 0 rfl) h_t_drops hl
