set_option maxRecDepth 100000 in
theorem k_X4_passHour (l : Launch) (G : z_G) (N : Nat) (t_o t_Aheight t_Adrops g_o g_Akind g_Abeside g_AbesideBits : Nat) (t_height : (Int → Int)) (t_drops : (Int → Int)) (t_hours : Int) (t_restless : Int64) (g_rows : Int) (g_columns : Int) (g_cells : Int) (g_kind : (Int → Int)) (g_beside : (Int → Int)) (g_besideBits : (Int → Int64)) (h_t_height : z_r t_height) (h_t_drops : z_r t_drops) (h_t_hours : z_n t_hours) (h_g_rows : z_n g_rows) (h_g_columns : z_n g_columns) (h_g_cells : z_n g_cells) (h_g_kind : z_r g_kind) (h_g_beside : z_r g_beside) (q_t_drops : (Int → Int)) (q_t_hours : Int) (q_t_restless : Int64) (hm : m_X4_passHour N t_height t_drops t_hours t_restless g_cells g_kind g_beside g_besideBits = some (q_t_drops, q_t_hours, q_t_restless)) : z_M l G yX4_passHour cX4_passHour 4 none (k2_rm 5 110) [.ref t_o, .ref g_o] ([(t_o, z_o 4 [.ref t_Aheight, .ref t_Adrops, z_i t_hours, .long t_restless]), (t_Aheight, z_a G.2.1 36 t_height), (t_Adrops, z_a G.2.1 36 t_drops), (g_o, z_o 0 [z_i g_rows, z_i g_columns, z_i g_cells, .ref g_Akind, .ref g_Abeside, .ref g_AbesideBits]), (g_Akind, z_a G.2.1 36 g_kind), (g_Abeside, z_a G.2.1 144 g_beside), (g_AbesideBits, z_l G.2.2.1 36 g_besideBits)]) 0 0 (fun v w => v = none ∧ w = [(t_o, z_o 4 [.ref t_Aheight, .ref t_Adrops, z_i q_t_hours, .long q_t_restless]), (t_Aheight, z_a G.2.1 36 t_height), (t_Adrops, z_a G.2.1 36 q_t_drops), (g_o, z_o 0 [z_i g_rows, z_i g_columns, z_i g_cells, .ref g_Akind, .ref g_Abeside, .ref g_AbesideBits]), (g_Akind, z_a G.2.1 36 g_kind), (g_Abeside, z_a G.2.1 144 g_beside), (g_AbesideBits, z_l G.2.2.1 36 g_besideBits)] ∧ z_r q_t_drops ∧ z_n q_t_hours ∧ True) := by
  unfold m_X4_passHour at hm
  refine z_M.intro (by decide +kernel) (Nat.le_of_ble_eq_true rfl) (L := [(0, .ref t_o), (1, .ref g_o)]) rfl (fun X C E => ?_)
  refine z_aload_n C dX4_passHour_0 0 rfl ?_
  refine z_dup C rfl dX4_passHour_1 ?_
  refine z_get C zf_X4_18 dX4_passHour_2 0 rfl rfl ?_
  refine z_iconst C dX4_passHour_5 ?_
  obtain ⟨c1, hm⟩ := z_chk_some hm
  refine z_iadd C dX4_passHour_6 ?_
  refine z_puti C zf_X4_18 dX4_passHour_7 0 rfl rfl (ws' := [(t_o, z_o 4 [.ref t_Aheight, .ref t_Adrops, z_i (t_hours + 1), .long t_restless]), (t_Aheight, z_a G.2.1 36 t_height), (t_Adrops, z_a G.2.1 36 t_drops), (g_o, z_o 0 [z_i g_rows, z_i g_columns, z_i g_cells, .ref g_Akind, .ref g_Abeside, .ref g_AbesideBits]), (g_Akind, z_a G.2.1 36 g_kind), (g_Abeside, z_a G.2.1 144 g_beside), (g_AbesideBits, z_l G.2.2.1 36 g_besideBits)]) rfl ?_
  refine z_aload_n C dX4_passHour_10 0 rfl ?_
  refine z_get C zf_X4_18 dX4_passHour_11 0 rfl rfl ?_
  refine z_iconst C dX4_passHour_14 ?_
  obtain ⟨c2, hm⟩ := z_chk_some hm
  refine z_irem C c1 (z_k 2 rfl) (by decide) dX4_passHour_15 ?_
  obtain ⟨s4, hj, hm⟩ := z_b1s hm
  have J5 : z_n s4 → (s4 = 0 ∨ s4 = 1) → z_J X 0 0 ([(t_o, z_o 4 [.ref t_Aheight, .ref t_Adrops, z_i (t_hours + 1), .long t_restless]), (t_Aheight, z_a G.2.1 36 t_height), (t_Adrops, z_a G.2.1 36 t_drops), (g_o, z_o 0 [z_i g_rows, z_i g_columns, z_i g_cells, .ref g_Akind, .ref g_Abeside, .ref g_AbesideBits]), (g_Akind, z_a G.2.1 36 g_kind), (g_Abeside, z_a G.2.1 144 g_beside), (g_AbesideBits, z_l G.2.2.1 36 g_besideBits)]) [(0, .ref t_o), (1, .ref g_o)] 24 [z_i s4] := by
    intro h_s4 hb_s4
    clear hj
    refine z_istore_n C dX4_passHour_24 (by decide) (L' := [(2, z_i s4), (0, .ref t_o), (1, .ref g_o)]) rfl ?_
    refine z_iconst C dX4_passHour_25 ?_
    refine z_istore_n C dX4_passHour_26 (by decide) (L' := [(3, z_i 0), (2, z_i s4), (0, .ref t_o), (1, .ref g_o)]) rfl ?_
    obtain ⟨o_t_drops_1, hl, hm⟩ := z_b1s hm
    have JX1 : z_r o_t_drops_1 → z_J X 0 0 ([(t_o, z_o 4 [.ref t_Aheight, .ref t_Adrops, z_i (t_hours + 1), .long t_restless]), (t_Aheight, z_a G.2.1 36 t_height), (t_Adrops, z_a G.2.1 36 o_t_drops_1), (g_o, z_o 0 [z_i g_rows, z_i g_columns, z_i g_cells, .ref g_Akind, .ref g_Abeside, .ref g_AbesideBits]), (g_Akind, z_a G.2.1 36 g_kind), (g_Abeside, z_a G.2.1 144 g_beside), (g_AbesideBits, z_l G.2.2.1 36 g_besideBits)]) [(0, .ref t_o), (1, .ref g_o)] 94 [] := by
      intro h_o_t_drops_1
      clear hl
      refine z_aload_n C dX4_passHour_94 0 rfl ?_
      refine z_aload_n C dX4_passHour_95 1 rfl ?_
      obtain ⟨t_drops_29, t_restless_30, k31, hm⟩ := z_b2s hm
      refine z_callVvd C (k_X4_flow l G N t_o t_Aheight t_Adrops g_o g_Akind g_Abeside g_AbesideBits t_height o_t_drops_1 (t_hours + 1) t_restless g_rows g_columns g_cells g_kind g_beside g_besideBits h_t_height h_o_t_drops_1 c1 h_g_rows h_g_columns h_g_cells h_g_kind h_g_beside t_drops_29 t_restless_30 k31) zv_X4_flow zl_X4_53 dX4_passHour_96 rfl 0 rfl rfl rfl [] rfl (Nat.le_of_ble_eq_true rfl) ⟨Nat.le_of_ble_eq_true rfl, Nat.le_of_ble_eq_true rfl⟩ ⟨rfl, rfl⟩ ⟨Nat.zero_le _, Nat.zero_le _⟩ (fun hF => ?_)
      obtain ⟨h_t_drops_29, -⟩ := hF
      cases hm
      exact z_vret C E dX4_passHour_99 ⟨rfl, rfl, h_t_drops_29, c1, trivial⟩
    clear hm
    have L1 : ∀ (n1 : Nat) (v3_1 : Int) (t_drops_1 : (Int → Int)), z_n v3_1 → z_r t_drops_1 → m_X4_passHour_l1 N g_cells s4 g_kind n1 v3_1 t_drops_1 = some (o_t_drops_1) → z_J X 0 0 ([(t_o, z_o 4 [.ref t_Aheight, .ref t_Adrops, z_i (t_hours + 1), .long t_restless]), (t_Aheight, z_a G.2.1 36 t_height), (t_Adrops, z_a G.2.1 36 t_drops_1), (g_o, z_o 0 [z_i g_rows, z_i g_columns, z_i g_cells, .ref g_Akind, .ref g_Abeside, .ref g_AbesideBits]), (g_Akind, z_a G.2.1 36 g_kind), (g_Abeside, z_a G.2.1 144 g_beside), (g_AbesideBits, z_l G.2.2.1 36 g_besideBits)]) [(0, .ref t_o), (1, .ref g_o), (2, z_i s4), (3, z_i v3_1)] 27 [] := by
      clear hl
      intro n1
      induction n1 with
      | zero =>
        intro v3_1 t_drops_1 h_v3_1 h_t_drops_1 hm
        rw [m_X4_passHour_l1] at hm
        cases hm
      | succ n1 ih1 =>
        intro v3_1 t_drops_1 h_v3_1 h_t_drops_1 hm
        rw [m_X4_passHour_l1] at hm
        refine z_iload_n C dX4_passHour_27 3 rfl ?_
        refine z_aload_n C dX4_passHour_28 1 rfl ?_
        refine z_get C zf_X4_38 dX4_passHour_29 3 rfl rfl ?_
        refine z_icmp_ge (tgt := 94) C h_v3_1 h_g_cells dX4_passHour_32 (by decide) (fun c6 => ?_) (fun c6 => ?_)
        · have hm := z_pos c6 hm
          refine z_sub (L' := [(0, .ref t_o), (1, .ref g_o)]) [0, 1] rfl ?_
          cases hm
          exact JX1 h_t_drops_1
        · have hm := z_neg c6 hm
          refine z_iload_n C dX4_passHour_35 3 rfl ?_
          refine z_bipush C dX4_passHour_36 (by decide) ?_
          refine z_icmp_ge (tgt := 94) C h_v3_1 (z_k 36 rfl) dX4_passHour_38 (by decide) (fun c7 => ?_) (fun c7 => ?_)
          · have hm := z_pos c7 hm
            refine z_sub (L' := [(0, .ref t_o), (1, .ref g_o)]) [0, 1] rfl ?_
            cases hm
            exact JX1 h_t_drops_1
          · have hm := z_neg c7 hm
            refine z_aload_n C dX4_passHour_41 0 rfl ?_
            refine z_get C zf_X4_15 dX4_passHour_42 0 rfl rfl ?_
            refine z_iload_n C dX4_passHour_45 3 rfl ?_
            obtain ⟨c8, hm⟩ := z_chk_some hm
            refine z_iald C dX4_passHour_46 2 rfl c8 h_v3_1 ?_
            obtain ⟨t_drops_20, hj, hm⟩ := z_b1s hm
            have J21 : z_r t_drops_20 → z_J X 0 0 ([(t_o, z_o 4 [.ref t_Aheight, .ref t_Adrops, z_i (t_hours + 1), .long t_restless]), (t_Aheight, z_a G.2.1 36 t_height), (t_Adrops, z_a G.2.1 36 t_drops_20), (g_o, z_o 0 [z_i g_rows, z_i g_columns, z_i g_cells, .ref g_Akind, .ref g_Abeside, .ref g_AbesideBits]), (g_Akind, z_a G.2.1 36 g_kind), (g_Abeside, z_a G.2.1 144 g_beside), (g_AbesideBits, z_l G.2.2.1 36 g_besideBits)]) [(0, .ref t_o), (1, .ref g_o), (2, z_i s4), (3, z_i v3_1)] 73 [] := by
              intro h_t_drops_20
              clear hj
              refine z_aload_n C dX4_passHour_73 1 rfl ?_
              refine z_iload_n C dX4_passHour_74 3 rfl ?_
              refine z_iconst C dX4_passHour_75 ?_
              obtain ⟨r22, k23, hm⟩ := z_b1s hm
              refine z_callVi C (k_X0_isKind l G N g_o g_Akind g_Abeside g_AbesideBits g_rows g_columns g_cells g_kind g_beside g_besideBits v3_1 4 h_g_rows h_g_columns h_g_cells h_g_kind h_g_beside h_v3_1 (z_k 4 rfl) r22 k23) zv_X0_isKind zl_X4_60 dX4_passHour_76 [3, 4, 5, 6] rfl rfl rfl (ws' := [(t_o, z_o 4 [.ref t_Aheight, .ref t_Adrops, z_i (t_hours + 1), .long t_restless]), (t_Aheight, z_a G.2.1 36 t_height), (t_Adrops, z_a G.2.1 36 t_drops_20), (g_o, z_o 0 [z_i g_rows, z_i g_columns, z_i g_cells, .ref g_Akind, .ref g_Abeside, .ref g_AbesideBits]), (g_Akind, z_a G.2.1 36 g_kind), (g_Abeside, z_a G.2.1 144 g_beside), (g_AbesideBits, z_l G.2.2.1 36 g_besideBits)]) rfl 3 rfl rfl rfl [] rfl (Nat.le_of_ble_eq_true rfl) ⟨Nat.le_of_ble_eq_true rfl, Nat.le_of_ble_eq_true rfl⟩ ⟨rfl, rfl⟩ ⟨Nat.zero_le _, Nat.zero_le _⟩ (fun hF => ?_)
              obtain ⟨hb_r22, -⟩ := hF
              refine z_if_eq (tgt := 88) C (z_n01 hb_r22) dX4_passHour_79 (by decide) (fun c24 => ?_) (fun c24 => ?_)
              · have hm := z_pos c24 hm
                obtain ⟨c25, hm⟩ := z_chk_some hm
                refine z_iinc C dX4_passHour_88 3 rfl (by decide) (L' := [(3, z_i (v3_1 + 1)), (0, .ref t_o), (1, .ref g_o), (2, z_i s4)]) rfl ?_
                refine z_goto (tgt := 27) C dX4_passHour_91 (by decide) ?_
                refine z_sub (L' := [(0, .ref t_o), (1, .ref g_o), (2, z_i s4), (3, z_i (v3_1 + 1))]) [1, 2, 3, 0] rfl ?_
                exact ih1 (v3_1 + 1) t_drops_20 c25 h_t_drops_20 hm
              · have hm := z_neg c24 hm
                refine z_aload_n C dX4_passHour_82 0 rfl ?_
                refine z_aload_n C dX4_passHour_83 1 rfl ?_
                refine z_iload_n C dX4_passHour_84 3 rfl ?_
                obtain ⟨t_drops_26, k27, hm⟩ := z_b1s hm
                refine z_callVvd C (k_X4_putDrop l G N t_o t_Aheight t_Adrops g_o g_Akind g_Abeside g_AbesideBits t_height t_drops_20 (t_hours + 1) t_restless g_rows g_columns g_cells g_kind g_beside g_besideBits v3_1 h_t_height h_t_drops_20 c1 h_g_rows h_g_columns h_g_cells h_g_kind h_g_beside h_v3_1 t_drops_26 k27) zv_X4_putDrop zl_X4_64 dX4_passHour_85 rfl 0 rfl rfl rfl [] rfl (Nat.le_of_ble_eq_true rfl) ⟨Nat.le_of_ble_eq_true rfl, Nat.le_of_ble_eq_true rfl⟩ ⟨rfl, rfl⟩ ⟨Nat.zero_le _, Nat.zero_le _⟩ (fun hF => ?_)
                obtain ⟨h_t_drops_26, -⟩ := hF
                obtain ⟨c28, hm⟩ := z_chk_some hm
                refine z_iinc C dX4_passHour_88 3 rfl (by decide) (L' := [(3, z_i (v3_1 + 1)), (0, .ref t_o), (1, .ref g_o), (2, z_i s4)]) rfl ?_
                refine z_goto (tgt := 27) C dX4_passHour_91 (by decide) ?_
                refine z_sub (L' := [(0, .ref t_o), (1, .ref g_o), (2, z_i s4), (3, z_i (v3_1 + 1))]) [1, 2, 3, 0] rfl ?_
                exact ih1 (v3_1 + 1) t_drops_26 c28 h_t_drops_26 hm
            replace hm := hj
            clear hj
            refine z_if_le (tgt := 73) C (h_t_drops_1 _) dX4_passHour_47 (by decide) (fun c9 => ?_) (fun c9 => ?_)
            · have hm := z_pos c9 hm
              cases hm
              exact J21 h_t_drops_1
            · have hm := z_neg c9 hm
              refine z_iload_n C dX4_passHour_50 2 rfl ?_
              refine z_if_ne (tgt := 63) C h_s4 dX4_passHour_51 (by decide) (fun c10 => ?_) (fun c10 => ?_)
              · have hm := z_pos c10 hm
                refine z_aload_n C dX4_passHour_63 0 rfl ?_
                refine z_get C zf_X4_15 dX4_passHour_64 0 rfl rfl ?_
                refine z_iload_n C dX4_passHour_67 3 rfl ?_
                refine z_dup2 C rfl rfl dX4_passHour_68 ?_
                obtain ⟨c11, hm⟩ := z_chk_some hm
                refine z_iald C dX4_passHour_69 2 rfl c11 h_v3_1 ?_
                refine z_iconst C dX4_passHour_70 ?_
                obtain ⟨c12, hm⟩ := z_chk_some hm
                refine z_isub C dX4_passHour_71 ?_
                obtain ⟨c13, hm⟩ := z_chk_some hm
                refine z_iast C dX4_passHour_72 2 rfl c13 h_v3_1 (ws' := [(t_o, z_o 4 [.ref t_Aheight, .ref t_Adrops, z_i (t_hours + 1), .long t_restless]), (t_Aheight, z_a G.2.1 36 t_height), (t_Adrops, z_a G.2.1 36 (z_up t_drops_1 v3_1 ((t_drops_1 v3_1) - 1))), (g_o, z_o 0 [z_i g_rows, z_i g_columns, z_i g_cells, .ref g_Akind, .ref g_Abeside, .ref g_AbesideBits]), (g_Akind, z_a G.2.1 36 g_kind), (g_Abeside, z_a G.2.1 144 g_beside), (g_AbesideBits, z_l G.2.2.1 36 g_besideBits)]) rfl ?_
                cases hm
                exact J21 (z_r_up h_t_drops_1 c12)
              · have hm := z_neg c10 hm
                refine z_aload_n C dX4_passHour_54 1 rfl ?_
                refine z_iload_n C dX4_passHour_55 3 rfl ?_
                refine z_iconst C dX4_passHour_56 ?_
                obtain ⟨r14, k15, hm⟩ := z_b1s hm
                refine z_callVi C (k_X0_isKind l G N g_o g_Akind g_Abeside g_AbesideBits g_rows g_columns g_cells g_kind g_beside g_besideBits v3_1 1 h_g_rows h_g_columns h_g_cells h_g_kind h_g_beside h_v3_1 (z_k 1 rfl) r14 k15) zv_X0_isKind zl_X4_60 dX4_passHour_57 [3, 4, 5, 6] rfl rfl rfl (ws' := [(t_o, z_o 4 [.ref t_Aheight, .ref t_Adrops, z_i (t_hours + 1), .long t_restless]), (t_Aheight, z_a G.2.1 36 t_height), (t_Adrops, z_a G.2.1 36 t_drops_1), (g_o, z_o 0 [z_i g_rows, z_i g_columns, z_i g_cells, .ref g_Akind, .ref g_Abeside, .ref g_AbesideBits]), (g_Akind, z_a G.2.1 36 g_kind), (g_Abeside, z_a G.2.1 144 g_beside), (g_AbesideBits, z_l G.2.2.1 36 g_besideBits)]) rfl 3 rfl rfl rfl [] rfl (Nat.le_of_ble_eq_true rfl) ⟨Nat.le_of_ble_eq_true rfl, Nat.le_of_ble_eq_true rfl⟩ ⟨rfl, rfl⟩ ⟨Nat.zero_le _, Nat.zero_le _⟩ (fun hF => ?_)
                obtain ⟨hb_r14, -⟩ := hF
                refine z_if_ne (tgt := 73) C (z_n01 hb_r14) dX4_passHour_60 (by decide) (fun c16 => ?_) (fun c16 => ?_)
                · have hm := z_pos c16 hm
                  cases hm
                  exact J21 h_t_drops_1
                · have hm := z_neg c16 hm
                  refine z_aload_n C dX4_passHour_63 0 rfl ?_
                  refine z_get C zf_X4_15 dX4_passHour_64 0 rfl rfl ?_
                  refine z_iload_n C dX4_passHour_67 3 rfl ?_
                  refine z_dup2 C rfl rfl dX4_passHour_68 ?_
                  obtain ⟨c17, hm⟩ := z_chk_some hm
                  refine z_iald C dX4_passHour_69 2 rfl c17 h_v3_1 ?_
                  refine z_iconst C dX4_passHour_70 ?_
                  obtain ⟨c18, hm⟩ := z_chk_some hm
                  refine z_isub C dX4_passHour_71 ?_
                  obtain ⟨c19, hm⟩ := z_chk_some hm
                  refine z_iast C dX4_passHour_72 2 rfl c19 h_v3_1 (ws' := [(t_o, z_o 4 [.ref t_Aheight, .ref t_Adrops, z_i (t_hours + 1), .long t_restless]), (t_Aheight, z_a G.2.1 36 t_height), (t_Adrops, z_a G.2.1 36 (z_up t_drops_1 v3_1 ((t_drops_1 v3_1) - 1))), (g_o, z_o 0 [z_i g_rows, z_i g_columns, z_i g_cells, .ref g_Akind, .ref g_Abeside, .ref g_AbesideBits]), (g_Akind, z_a G.2.1 36 g_kind), (g_Abeside, z_a G.2.1 144 g_beside), (g_AbesideBits, z_l G.2.2.1 36 g_besideBits)]) rfl ?_
                  cases hm
                  exact J21 (z_r_up h_t_drops_1 c18)
    refine z_sub (L' := [(0, .ref t_o), (1, .ref g_o), (2, z_i s4), (3, z_i 0)]) [2, 3, 1, 0] rfl ?_
    exact L1 N 0 t_drops (z_k 0 rfl) h_t_drops hl
  replace hm := hj
  clear hj
  refine z_if_ne (tgt := 23) C c2 dX4_passHour_16 (by decide) (fun c3 => ?_) (fun c3 => ?_)
  · have hm := z_pos c3 hm
    refine z_iconst C dX4_passHour_23 ?_
    cases hm
    exact J5 (z_k 0 rfl) (Or.inl rfl)
  · have hm := z_neg c3 hm
    refine z_iconst C dX4_passHour_19 ?_
    refine z_goto (tgt := 24) C dX4_passHour_20 (by decide) ?_
    cases hm
    exact J5 (z_k 1 rfl) (Or.inr rfl)
set_option maxRecDepth 100000 in
theorem k_X4_passHours (l : Launch) (G : z_G) (N : Nat) (t_o t_Aheight t_Adrops g_o g_Akind g_Abeside g_AbesideBits : Nat) (t_height : (Int → Int)) (t_drops : (Int → Int)) (t_hours : Int) (t_restless : Int64) (g_rows : Int) (g_columns : Int) (g_cells : Int) (g_kind : (Int → Int)) (g_beside : (Int → Int)) (g_besideBits : (Int → Int64)) (x2 : Int) (h_t_height : z_r t_height) (h_t_drops : z_r t_drops) (h_t_hours : z_n t_hours) (h_g_rows : z_n g_rows) (h_g_columns : z_n g_columns) (h_g_cells : z_n g_cells) (h_g_kind : z_r g_kind) (h_g_beside : z_r g_beside) (h_x2 : z_n x2) (q_t_drops : (Int → Int)) (q_t_hours : Int) (q_t_restless : Int64) (hm : m_X4_passHours N t_height t_drops t_hours t_restless g_cells g_kind g_beside g_besideBits x2 = some (q_t_drops, q_t_hours, q_t_restless)) : z_M l G yX4_passHours cX4_passHours 4 none (k2_rm 6 133) [.ref t_o, .ref g_o, z_i x2] ([(t_o, z_o 4 [.ref t_Aheight, .ref t_Adrops, z_i t_hours, .long t_restless]), (t_Aheight, z_a G.2.1 36 t_height), (t_Adrops, z_a G.2.1 36 t_drops), (g_o, z_o 0 [z_i g_rows, z_i g_columns, z_i g_cells, .ref g_Akind, .ref g_Abeside, .ref g_AbesideBits]), (g_Akind, z_a G.2.1 36 g_kind), (g_Abeside, z_a G.2.1 144 g_beside), (g_AbesideBits, z_l G.2.2.1 36 g_besideBits)]) 0 0 (fun v w => v = none ∧ w = [(t_o, z_o 4 [.ref t_Aheight, .ref t_Adrops, z_i q_t_hours, .long q_t_restless]), (t_Aheight, z_a G.2.1 36 t_height), (t_Adrops, z_a G.2.1 36 q_t_drops), (g_o, z_o 0 [z_i g_rows, z_i g_columns, z_i g_cells, .ref g_Akind, .ref g_Abeside, .ref g_AbesideBits]), (g_Akind, z_a G.2.1 36 g_kind), (g_Abeside, z_a G.2.1 144 g_beside), (g_AbesideBits, z_l G.2.2.1 36 g_besideBits)] ∧ z_r q_t_drops ∧ z_n q_t_hours ∧ True) := by
  unfold m_X4_passHours at hm
  refine z_M.intro (by decide +kernel) (Nat.le_of_ble_eq_true rfl) (L := [(0, .ref t_o), (1, .ref g_o), (2, z_i x2)]) rfl (fun X C E => ?_)
  refine z_iconst C dX4_passHours_0 ?_
  refine z_istore_n C dX4_passHours_1 (by decide) (L' := [(3, z_i 0), (0, .ref t_o), (1, .ref g_o), (2, z_i x2)]) rfl ?_
  obtain ⟨o_t_drops_1, o_t_hours_1, o_t_restless_1, hl, hm⟩ := z_b3s hm
  have JX1 : z_r o_t_drops_1 → z_n o_t_hours_1 → z_J X 0 0 ([(t_o, z_o 4 [.ref t_Aheight, .ref t_Adrops, z_i o_t_hours_1, .long o_t_restless_1]), (t_Aheight, z_a G.2.1 36 t_height), (t_Adrops, z_a G.2.1 36 o_t_drops_1), (g_o, z_o 0 [z_i g_rows, z_i g_columns, z_i g_cells, .ref g_Akind, .ref g_Abeside, .ref g_AbesideBits]), (g_Akind, z_a G.2.1 36 g_kind), (g_Abeside, z_a G.2.1 144 g_beside), (g_AbesideBits, z_l G.2.2.1 36 g_besideBits)]) [] 18 [] := by
    intro h_o_t_drops_1 h_o_t_hours_1
    clear hl
    cases hm
    exact z_vret C E dX4_passHours_18 ⟨rfl, rfl, h_o_t_drops_1, h_o_t_hours_1, trivial⟩
  clear hm
  have L1 : ∀ (n1 : Nat) (v3_1 : Int) (t_drops_1 : (Int → Int)) (t_hours_1 : Int) (t_restless_1 : Int64), z_n v3_1 → z_r t_drops_1 → z_n t_hours_1 → m_X4_passHours_l1 N x2 t_height g_cells g_kind g_beside g_besideBits n1 v3_1 t_drops_1 t_hours_1 t_restless_1 = some (o_t_drops_1, o_t_hours_1, o_t_restless_1) → z_J X 0 0 ([(t_o, z_o 4 [.ref t_Aheight, .ref t_Adrops, z_i t_hours_1, .long t_restless_1]), (t_Aheight, z_a G.2.1 36 t_height), (t_Adrops, z_a G.2.1 36 t_drops_1), (g_o, z_o 0 [z_i g_rows, z_i g_columns, z_i g_cells, .ref g_Akind, .ref g_Abeside, .ref g_AbesideBits]), (g_Akind, z_a G.2.1 36 g_kind), (g_Abeside, z_a G.2.1 144 g_beside), (g_AbesideBits, z_l G.2.2.1 36 g_besideBits)]) [(0, .ref t_o), (1, .ref g_o), (2, z_i x2), (3, z_i v3_1)] 2 [] := by
    clear hl
    intro n1
    induction n1 with
    | zero =>
      intro v3_1 t_drops_1 t_hours_1 t_restless_1 h_v3_1 h_t_drops_1 h_t_hours_1 hm
      rw [m_X4_passHours_l1] at hm
      cases hm
    | succ n1 ih1 =>
      intro v3_1 t_drops_1 t_hours_1 t_restless_1 h_v3_1 h_t_drops_1 h_t_hours_1 hm
      rw [m_X4_passHours_l1] at hm
      refine z_iload_n C dX4_passHours_2 3 rfl ?_
      refine z_iload_n C dX4_passHours_3 2 rfl ?_
      refine z_icmp_ge (tgt := 18) C h_v3_1 h_x2 dX4_passHours_4 (by decide) (fun c1 => ?_) (fun c1 => ?_)
      · have hm := z_pos c1 hm
        refine z_sub (L' := []) [] rfl ?_
        cases hm
        exact JX1 h_t_drops_1 h_t_hours_1
      · have hm := z_neg c1 hm
        refine z_aload_n C dX4_passHours_7 0 rfl ?_
        refine z_aload_n C dX4_passHours_8 1 rfl ?_
        obtain ⟨t_drops_2, t_hours_3, t_restless_4, k5, hm⟩ := z_b3s hm
        refine z_callVvd C (k_X4_passHour l G N t_o t_Aheight t_Adrops g_o g_Akind g_Abeside g_AbesideBits t_height t_drops_1 t_hours_1 t_restless_1 g_rows g_columns g_cells g_kind g_beside g_besideBits h_t_height h_t_drops_1 h_t_hours_1 h_g_rows h_g_columns h_g_cells h_g_kind h_g_beside t_drops_2 t_hours_3 t_restless_4 k5) zv_X4_passHour zl_X4_57 dX4_passHours_9 rfl 0 rfl rfl rfl [] rfl (Nat.le_of_ble_eq_true rfl) ⟨Nat.le_of_ble_eq_true rfl, Nat.le_of_ble_eq_true rfl⟩ ⟨rfl, rfl⟩ ⟨Nat.zero_le _, Nat.zero_le _⟩ (fun hF => ?_)
        obtain ⟨h_t_drops_2, h_t_hours_3, -⟩ := hF
        obtain ⟨c6, hm⟩ := z_chk_some hm
        refine z_iinc C dX4_passHours_12 3 rfl (by decide) (L' := [(3, z_i (v3_1 + 1)), (0, .ref t_o), (1, .ref g_o), (2, z_i x2)]) rfl ?_
        refine z_goto (tgt := 2) C dX4_passHours_15 (by decide) ?_
        refine z_sub (L' := [(0, .ref t_o), (1, .ref g_o), (2, z_i x2), (3, z_i (v3_1 + 1))]) [1, 2, 3, 0] rfl ?_
        exact ih1 (v3_1 + 1) t_drops_2 t_hours_3 t_restless_4 c6 h_t_drops_2 h_t_hours_3 hm
  refine z_sub (L' := [(0, .ref t_o), (1, .ref g_o), (2, z_i x2), (3, z_i 0)]) [1, 2, 3, 0] rfl ?_
  exact L1 N 0 t_drops t_hours t_restless (z_k 0 rfl) h_t_drops h_t_hours hl
set_option maxRecDepth 100000 in
theorem k_X5_shine (l : Launch) (G : z_G) (N : Nat) (m_o tx_o gr_o nw_o og_o la_o ss_o un_o kp_o m_AringCell m_AringDrops gr_Akind gr_Abeside gr_AbesideBits nw_Aheight nw_Adrops un_Aheights un_Adrops un_Ahours : Nat) (m_ringCell : (Int → Int)) (m_ringDrops : (Int → Int)) (m_rings : Int) (gr_rows : Int) (gr_columns : Int) (gr_cells : Int) (gr_kind : (Int → Int)) (gr_beside : (Int → Int)) (gr_besideBits : (Int → Int64)) (nw_height : (Int → Int)) (nw_drops : (Int → Int)) (nw_hours : Int) (nw_restless : Int64) (un_heights : (Int → Int)) (un_drops : (Int → Int)) (un_hours : (Int → Int)) (un_many : Int) (x1 : Int) (h_m_ringCell : z_r m_ringCell) (h_m_ringDrops : z_r m_ringDrops) (h_m_rings : z_n m_rings) (h_gr_rows : z_n gr_rows) (h_gr_columns : z_n gr_columns) (h_gr_cells : z_n gr_cells) (h_gr_kind : z_r gr_kind) (h_gr_beside : z_r gr_beside) (h_nw_height : z_r nw_height) (h_nw_drops : z_r nw_drops) (h_nw_hours : z_n nw_hours) (h_un_heights : z_r un_heights) (h_un_drops : z_r un_drops) (h_un_hours : z_r un_hours) (h_un_many : z_n un_many) (h_x1 : z_n x1) (rr : Int) (q_nw_drops : (Int → Int)) (q_nw_hours : Int) (q_nw_restless : Int64) (q_un_heights : (Int → Int)) (q_un_drops : (Int → Int)) (q_un_hours : (Int → Int)) (q_un_many : Int) (hm : m_X5_shine N gr_cells gr_kind gr_beside gr_besideBits nw_height nw_drops nw_hours nw_restless un_heights un_drops un_hours un_many x1 = some (rr, q_nw_drops, q_nw_hours, q_nw_restless, q_un_heights, q_un_drops, q_un_hours, q_un_many)) : z_M l G yX5_shine cX5_shine 2 (some .int) (k2_rm 7 156) [.ref m_o, z_i x1] ([(m_o, z_o 5 [.ref tx_o, .ref gr_o, .ref nw_o, .ref og_o, .ref la_o, .ref ss_o, .ref un_o, .ref kp_o, .ref m_AringCell, .ref m_AringDrops, z_i m_rings]), (m_AringCell, z_a G.2.1 6 m_ringCell), (m_AringDrops, z_a G.2.1 6 m_ringDrops), (gr_o, z_o 0 [z_i gr_rows, z_i gr_columns, z_i gr_cells, .ref gr_Akind, .ref gr_Abeside, .ref gr_AbesideBits]), (gr_Akind, z_a G.2.1 36 gr_kind), (gr_Abeside, z_a G.2.1 144 gr_beside), (gr_AbesideBits, z_l G.2.2.1 36 gr_besideBits), (nw_o, z_o 4 [.ref nw_Aheight, .ref nw_Adrops, z_i nw_hours, .long nw_restless]), (nw_Aheight, z_a G.2.1 36 nw_height), (nw_Adrops, z_a G.2.1 36 nw_drops), (un_o, z_o 1 [.ref un_Aheights, .ref un_Adrops, .ref un_Ahours, z_i un_many]), (un_Aheights, z_a G.2.1 288 un_heights), (un_Adrops, z_a G.2.1 288 un_drops), (un_Ahours, z_a G.2.1 8 un_hours)]) 0 0 (fun v w => v = some (z_i rr) ∧ w = [(m_o, z_o 5 [.ref tx_o, .ref gr_o, .ref nw_o, .ref og_o, .ref la_o, .ref ss_o, .ref un_o, .ref kp_o, .ref m_AringCell, .ref m_AringDrops, z_i m_rings]), (m_AringCell, z_a G.2.1 6 m_ringCell), (m_AringDrops, z_a G.2.1 6 m_ringDrops), (gr_o, z_o 0 [z_i gr_rows, z_i gr_columns, z_i gr_cells, .ref gr_Akind, .ref gr_Abeside, .ref gr_AbesideBits]), (gr_Akind, z_a G.2.1 36 gr_kind), (gr_Abeside, z_a G.2.1 144 gr_beside), (gr_AbesideBits, z_l G.2.2.1 36 gr_besideBits), (nw_o, z_o 4 [.ref nw_Aheight, .ref nw_Adrops, z_i q_nw_hours, .long q_nw_restless]), (nw_Aheight, z_a G.2.1 36 nw_height), (nw_Adrops, z_a G.2.1 36 q_nw_drops), (un_o, z_o 1 [.ref un_Aheights, .ref un_Adrops, .ref un_Ahours, z_i q_un_many]), (un_Aheights, z_a G.2.1 288 q_un_heights), (un_Adrops, z_a G.2.1 288 q_un_drops), (un_Ahours, z_a G.2.1 8 q_un_hours)] ∧ z_n rr ∧ z_r q_nw_drops ∧ z_n q_nw_hours ∧ z_r q_un_heights ∧ z_r q_un_drops ∧ z_r q_un_hours ∧ z_n q_un_many ∧ True) := by
  unfold m_X5_shine at hm
  refine z_M.intro (by decide +kernel) (Nat.le_of_ble_eq_true rfl) (L := [(0, .ref m_o), (1, z_i x1)]) rfl (fun X C E => ?_)
  refine z_iload_n C dX5_shine_0 1 rfl ?_
  refine z_iconst C dX5_shine_1 ?_
  refine z_bipush C dX5_shine_2 (by decide) ?_
  obtain ⟨r1, k2, hm⟩ := z_b1s hm
  refine z_callSi C (k_X5_isFrom l G N x1 1 20 h_x1 (z_k 1 rfl) (z_k 20 rfl) r1 k2) zs_X5_isFrom zl_X5_100 dX5_shine_4 [] rfl rfl rfl (ws' := [(m_o, z_o 5 [.ref tx_o, .ref gr_o, .ref nw_o, .ref og_o, .ref la_o, .ref ss_o, .ref un_o, .ref kp_o, .ref m_AringCell, .ref m_AringDrops, z_i m_rings]), (m_AringCell, z_a G.2.1 6 m_ringCell), (m_AringDrops, z_a G.2.1 6 m_ringDrops), (gr_o, z_o 0 [z_i gr_rows, z_i gr_columns, z_i gr_cells, .ref gr_Akind, .ref gr_Abeside, .ref gr_AbesideBits]), (gr_Akind, z_a G.2.1 36 gr_kind), (gr_Abeside, z_a G.2.1 144 gr_beside), (gr_AbesideBits, z_l G.2.2.1 36 gr_besideBits), (nw_o, z_o 4 [.ref nw_Aheight, .ref nw_Adrops, z_i nw_hours, .long nw_restless]), (nw_Aheight, z_a G.2.1 36 nw_height), (nw_Adrops, z_a G.2.1 36 nw_drops), (un_o, z_o 1 [.ref un_Aheights, .ref un_Adrops, .ref un_Ahours, z_i un_many]), (un_Aheights, z_a G.2.1 288 un_heights), (un_Adrops, z_a G.2.1 288 un_drops), (un_Ahours, z_a G.2.1 8 un_hours)]) rfl rfl [] rfl (Nat.le_of_ble_eq_true rfl) ⟨Nat.le_of_ble_eq_true rfl, Nat.le_of_ble_eq_true rfl⟩ ⟨rfl, rfl⟩ ⟨Nat.zero_le _, Nat.zero_le _⟩ (fun hF => ?_)
  obtain ⟨hb_r1, -⟩ := hF
  refine z_if_ne (tgt := 12) C (z_n01 hb_r1) dX5_shine_7 (by decide) (fun c3 => ?_) (fun c3 => ?_)
  · have hm := z_pos c3 hm
    refine z_aload_n C dX5_shine_12 0 rfl ?_
    refine z_get C zf_X5_46 dX5_shine_13 0 rfl rfl ?_
    refine z_aload_n C dX5_shine_16 0 rfl ?_
    refine z_get C zf_X5_26 dX5_shine_17 0 rfl rfl ?_
    obtain ⟨un_heights_4, un_drops_5, un_hours_6, un_many_7, k8, hm⟩ := z_b4s hm
    refine z_callVv C (k_X1_push l G N un_o un_Aheights un_Adrops un_Ahours nw_o nw_Aheight nw_Adrops un_heights un_drops un_hours un_many nw_height nw_drops nw_hours nw_restless h_un_heights h_un_drops h_un_hours h_un_many h_nw_height h_nw_drops h_nw_hours un_heights_4 un_drops_5 un_hours_6 un_many_7 k8) zv_X1_push zl_X5_128 dX5_shine_20 [10, 11, 12, 13, 7, 8, 9] rfl rfl rfl (ws' := [(m_o, z_o 5 [.ref tx_o, .ref gr_o, .ref nw_o, .ref og_o, .ref la_o, .ref ss_o, .ref un_o, .ref kp_o, .ref m_AringCell, .ref m_AringDrops, z_i m_rings]), (m_AringCell, z_a G.2.1 6 m_ringCell), (m_AringDrops, z_a G.2.1 6 m_ringDrops), (gr_o, z_o 0 [z_i gr_rows, z_i gr_columns, z_i gr_cells, .ref gr_Akind, .ref gr_Abeside, .ref gr_AbesideBits]), (gr_Akind, z_a G.2.1 36 gr_kind), (gr_Abeside, z_a G.2.1 144 gr_beside), (gr_AbesideBits, z_l G.2.2.1 36 gr_besideBits), (nw_o, z_o 4 [.ref nw_Aheight, .ref nw_Adrops, z_i nw_hours, .long nw_restless]), (nw_Aheight, z_a G.2.1 36 nw_height), (nw_Adrops, z_a G.2.1 36 nw_drops), (un_o, z_o 1 [.ref un_Aheights, .ref un_Adrops, .ref un_Ahours, z_i un_many_7]), (un_Aheights, z_a G.2.1 288 un_heights_4), (un_Adrops, z_a G.2.1 288 un_drops_5), (un_Ahours, z_a G.2.1 8 un_hours_6)]) rfl 10 rfl rfl rfl [] rfl (Nat.le_of_ble_eq_true rfl) ⟨Nat.le_of_ble_eq_true rfl, Nat.le_of_ble_eq_true rfl⟩ ⟨rfl, rfl⟩ ⟨Nat.zero_le _, Nat.zero_le _⟩ (fun hF => ?_)
    obtain ⟨h_un_heights_4, h_un_drops_5, h_un_hours_6, h_un_many_7, -⟩ := hF
    refine z_aload_n C dX5_shine_23 0 rfl ?_
    refine z_get C zf_X5_26 dX5_shine_24 0 rfl rfl ?_
    refine z_aload_n C dX5_shine_27 0 rfl ?_
    refine z_get C zf_X5_19 dX5_shine_28 0 rfl rfl ?_
    refine z_iload_n C dX5_shine_31 1 rfl ?_
    obtain ⟨nw_drops_9, nw_hours_10, nw_restless_11, k12, hm⟩ := z_b3s hm
    refine z_callVv C (k_X4_passHours l G N nw_o nw_Aheight nw_Adrops gr_o gr_Akind gr_Abeside gr_AbesideBits nw_height nw_drops nw_hours nw_restless gr_rows gr_columns gr_cells gr_kind gr_beside gr_besideBits x1 h_nw_height h_nw_drops h_nw_hours h_gr_rows h_gr_columns h_gr_cells h_gr_kind h_gr_beside h_x1 nw_drops_9 nw_hours_10 nw_restless_11 k12) zv_X4_passHours zl_X5_140 dX5_shine_32 [7, 8, 9, 3, 4, 5, 6] rfl rfl rfl (ws' := [(m_o, z_o 5 [.ref tx_o, .ref gr_o, .ref nw_o, .ref og_o, .ref la_o, .ref ss_o, .ref un_o, .ref kp_o, .ref m_AringCell, .ref m_AringDrops, z_i m_rings]), (m_AringCell, z_a G.2.1 6 m_ringCell), (m_AringDrops, z_a G.2.1 6 m_ringDrops), (gr_o, z_o 0 [z_i gr_rows, z_i gr_columns, z_i gr_cells, .ref gr_Akind, .ref gr_Abeside, .ref gr_AbesideBits]), (gr_Akind, z_a G.2.1 36 gr_kind), (gr_Abeside, z_a G.2.1 144 gr_beside), (gr_AbesideBits, z_l G.2.2.1 36 gr_besideBits), (nw_o, z_o 4 [.ref nw_Aheight, .ref nw_Adrops, z_i nw_hours_10, .long nw_restless_11]), (nw_Aheight, z_a G.2.1 36 nw_height), (nw_Adrops, z_a G.2.1 36 nw_drops_9), (un_o, z_o 1 [.ref un_Aheights, .ref un_Adrops, .ref un_Ahours, z_i un_many_7]), (un_Aheights, z_a G.2.1 288 un_heights_4), (un_Adrops, z_a G.2.1 288 un_drops_5), (un_Ahours, z_a G.2.1 8 un_hours_6)]) rfl 7 rfl rfl rfl [] rfl (Nat.le_of_ble_eq_true rfl) ⟨Nat.le_of_ble_eq_true rfl, Nat.le_of_ble_eq_true rfl⟩ ⟨rfl, rfl⟩ ⟨Nat.zero_le _, Nat.zero_le _⟩ (fun hF => ?_)
    obtain ⟨h_nw_drops_9, h_nw_hours_10, -⟩ := hF
    refine z_aload_n C dX5_shine_35 0 rfl ?_
    refine z_get C zf_X5_26 dX5_shine_36 0 rfl rfl ?_
    refine z_get C zf_X5_143 dX5_shine_39 7 rfl rfl ?_
    cases hm
    exact z_iret C E dX5_shine_42 ⟨rfl, rfl, h_nw_hours_10, h_nw_drops_9, h_nw_hours_10, h_un_heights_4, h_un_drops_5, h_un_hours_6, h_un_many_7, trivial⟩
  · have hm := z_neg c3 hm
    refine z_iconst C dX5_shine_10 ?_
    cases hm
    exact z_iret C E dX5_shine_11 ⟨rfl, rfl, (z_k (-1) rfl), h_nw_drops, h_nw_hours, h_un_heights, h_un_drops, h_un_hours, h_un_many, trivial⟩
set_option maxRecDepth 100000 in
theorem k_X4_stepInto (l : Launch) (G : z_G) (N : Nat) (t_o t_Aheight t_Adrops g_o g_Akind g_Abeside g_AbesideBits : Nat) (t_height : (Int → Int)) (t_drops : (Int → Int)) (t_hours : Int) (t_restless : Int64) (g_rows : Int) (g_columns : Int) (g_cells : Int) (g_kind : (Int → Int)) (g_beside : (Int → Int)) (g_besideBits : (Int → Int64)) (x2 : Int) (h_t_height : z_r t_height) (h_t_drops : z_r t_drops) (h_t_hours : z_n t_hours) (h_g_rows : z_n g_rows) (h_g_columns : z_n g_columns) (h_g_cells : z_n g_cells) (h_g_kind : z_r g_kind) (h_g_beside : z_r g_beside) (h_x2 : z_n x2) (q_t_drops : (Int → Int)) (q_t_restless : Int64) (hm : m_X4_stepInto N t_height t_drops t_restless g_cells g_kind g_beside g_besideBits x2 = some (q_t_drops, q_t_restless)) : z_M l G yX4_stepInto cX4_stepInto 5 none (k2_rm 5 110) [.ref t_o, .ref g_o, z_i x2] ([(t_o, z_o 4 [.ref t_Aheight, .ref t_Adrops, z_i t_hours, .long t_restless]), (t_Aheight, z_a G.2.1 36 t_height), (t_Adrops, z_a G.2.1 36 t_drops), (g_o, z_o 0 [z_i g_rows, z_i g_columns, z_i g_cells, .ref g_Akind, .ref g_Abeside, .ref g_AbesideBits]), (g_Akind, z_a G.2.1 36 g_kind), (g_Abeside, z_a G.2.1 144 g_beside), (g_AbesideBits, z_l G.2.2.1 36 g_besideBits)]) 0 0 (fun v w => v = none ∧ w = [(t_o, z_o 4 [.ref t_Aheight, .ref t_Adrops, z_i t_hours, .long q_t_restless]), (t_Aheight, z_a G.2.1 36 t_height), (t_Adrops, z_a G.2.1 36 q_t_drops), (g_o, z_o 0 [z_i g_rows, z_i g_columns, z_i g_cells, .ref g_Akind, .ref g_Abeside, .ref g_AbesideBits]), (g_Akind, z_a G.2.1 36 g_kind), (g_Abeside, z_a G.2.1 144 g_beside), (g_AbesideBits, z_l G.2.2.1 36 g_besideBits)] ∧ z_r q_t_drops ∧ True) := by
  unfold m_X4_stepInto at hm
  refine z_M.intro (by decide +kernel) (Nat.le_of_ble_eq_true rfl) (L := [(0, .ref t_o), (1, .ref g_o), (2, z_i x2)]) rfl (fun X C E => ?_)
  refine z_iconst C dX4_stepInto_0 ?_
  refine z_istore_n C dX4_stepInto_1 (by decide) (L' := [(3, z_i 0), (0, .ref t_o), (1, .ref g_o), (2, z_i x2)]) rfl ?_
  obtain ⟨o_t_drops_1, hl, hm⟩ := z_b1s hm
  have JX1 : z_r o_t_drops_1 → z_J X 0 0 ([(t_o, z_o 4 [.ref t_Aheight, .ref t_Adrops, z_i t_hours, .long t_restless]), (t_Aheight, z_a G.2.1 36 t_height), (t_Adrops, z_a G.2.1 36 o_t_drops_1), (g_o, z_o 0 [z_i g_rows, z_i g_columns, z_i g_cells, .ref g_Akind, .ref g_Abeside, .ref g_AbesideBits]), (g_Akind, z_a G.2.1 36 g_kind), (g_Abeside, z_a G.2.1 144 g_beside), (g_AbesideBits, z_l G.2.2.1 36 g_besideBits)]) [(0, .ref t_o), (1, .ref g_o)] 64 [] := by
    intro h_o_t_drops_1
    clear hl
    refine z_aload_n C dX4_stepInto_64 0 rfl ?_
    refine z_aload_n C dX4_stepInto_65 1 rfl ?_
    obtain ⟨t_drops_21, t_restless_22, k23, hm⟩ := z_b2s hm
    refine z_callVvd C (k_X4_flow l G N t_o t_Aheight t_Adrops g_o g_Akind g_Abeside g_AbesideBits t_height o_t_drops_1 t_hours t_restless g_rows g_columns g_cells g_kind g_beside g_besideBits h_t_height h_o_t_drops_1 h_t_hours h_g_rows h_g_columns h_g_cells h_g_kind h_g_beside t_drops_21 t_restless_22 k23) zv_X4_flow zl_X4_53 dX4_stepInto_66 rfl 0 rfl rfl rfl [] rfl (Nat.le_of_ble_eq_true rfl) ⟨Nat.le_of_ble_eq_true rfl, Nat.le_of_ble_eq_true rfl⟩ ⟨rfl, rfl⟩ ⟨Nat.zero_le _, Nat.zero_le _⟩ (fun hF => ?_)
    obtain ⟨h_t_drops_21, -⟩ := hF
    cases hm
    exact z_vret C E dX4_stepInto_69 ⟨rfl, rfl, h_t_drops_21, trivial⟩
  clear hm
  have L1 : ∀ (n1 : Nat) (v3_1 : Int) (t_drops_1 : (Int → Int)), z_n v3_1 → z_r t_drops_1 → m_X4_stepInto_l1 N g_beside x2 g_cells g_kind n1 v3_1 t_drops_1 = some (o_t_drops_1) → z_J X 0 0 ([(t_o, z_o 4 [.ref t_Aheight, .ref t_Adrops, z_i t_hours, .long t_restless]), (t_Aheight, z_a G.2.1 36 t_height), (t_Adrops, z_a G.2.1 36 t_drops_1), (g_o, z_o 0 [z_i g_rows, z_i g_columns, z_i g_cells, .ref g_Akind, .ref g_Abeside, .ref g_AbesideBits]), (g_Akind, z_a G.2.1 36 g_kind), (g_Abeside, z_a G.2.1 144 g_beside), (g_AbesideBits, z_l G.2.2.1 36 g_besideBits)]) [(0, .ref t_o), (1, .ref g_o), (2, z_i x2), (3, z_i v3_1)] 2 [] := by
    clear hl
    intro n1
    induction n1 with
    | zero =>
      intro v3_1 t_drops_1 h_v3_1 h_t_drops_1 hm
      rw [m_X4_stepInto_l1] at hm
      cases hm
    | succ n1 ih1 =>
      intro v3_1 t_drops_1 h_v3_1 h_t_drops_1 hm
      rw [m_X4_stepInto_l1] at hm
      refine z_iload_n C dX4_stepInto_2 3 rfl ?_
      refine z_iconst C dX4_stepInto_3 ?_
      refine z_icmp_ge (tgt := 64) C h_v3_1 (z_k 4 rfl) dX4_stepInto_4 (by decide) (fun c1 => ?_) (fun c1 => ?_)
      · have hm := z_pos c1 hm
        refine z_sub (L' := [(0, .ref t_o), (1, .ref g_o)]) [0, 1] rfl ?_
        cases hm
        exact JX1 h_t_drops_1
      · have hm := z_neg c1 hm
        refine z_aload_n C dX4_stepInto_7 1 rfl ?_
        refine z_iload_n C dX4_stepInto_8 2 rfl ?_
        refine z_iload_n C dX4_stepInto_9 3 rfl ?_
        obtain ⟨r2, k3, hm⟩ := z_b1s hm
        refine z_callVi C (k_X0_cellBeside l G N g_o g_Akind g_Abeside g_AbesideBits g_rows g_columns g_cells g_kind g_beside g_besideBits x2 v3_1 h_g_rows h_g_columns h_g_cells h_g_kind h_g_beside h_x2 h_v3_1 r2 k3) zv_X0_cellBeside zl_X4_68 dX4_stepInto_10 [3, 4, 5, 6] rfl rfl rfl (ws' := [(t_o, z_o 4 [.ref t_Aheight, .ref t_Adrops, z_i t_hours, .long t_restless]), (t_Aheight, z_a G.2.1 36 t_height), (t_Adrops, z_a G.2.1 36 t_drops_1), (g_o, z_o 0 [z_i g_rows, z_i g_columns, z_i g_cells, .ref g_Akind, .ref g_Abeside, .ref g_AbesideBits]), (g_Akind, z_a G.2.1 36 g_kind), (g_Abeside, z_a G.2.1 144 g_beside), (g_AbesideBits, z_l G.2.2.1 36 g_besideBits)]) rfl 3 rfl rfl rfl [] rfl (Nat.le_of_ble_eq_true rfl) ⟨Nat.le_of_ble_eq_true rfl, Nat.le_of_ble_eq_true rfl⟩ ⟨rfl, rfl⟩ ⟨Nat.zero_le _, Nat.zero_le _⟩ (fun hF => ?_)
        obtain ⟨h_r2, -⟩ := hF
        refine z_istore C dX4_stepInto_13 (by decide) (L' := [(4, z_i r2), (0, .ref t_o), (1, .ref g_o), (2, z_i x2), (3, z_i v3_1)]) rfl ?_
        refine z_aload_n C dX4_stepInto_15 2 rfl ?_
        refine z_iload C dX4_stepInto_16 0 rfl ?_
        obtain ⟨r4, k5, hm⟩ := z_b1s hm
        refine z_callVi C (k_X0_holds l G N g_o g_Akind g_Abeside g_AbesideBits g_rows g_columns g_cells g_kind g_beside g_besideBits r2 h_g_rows h_g_columns h_g_cells h_g_kind h_g_beside h_r2 r4 k5) zv_X0_holds zl_X4_71 dX4_stepInto_18 [3, 4, 5, 6] rfl rfl rfl (ws' := [(t_o, z_o 4 [.ref t_Aheight, .ref t_Adrops, z_i t_hours, .long t_restless]), (t_Aheight, z_a G.2.1 36 t_height), (t_Adrops, z_a G.2.1 36 t_drops_1), (g_o, z_o 0 [z_i g_rows, z_i g_columns, z_i g_cells, .ref g_Akind, .ref g_Abeside, .ref g_AbesideBits]), (g_Akind, z_a G.2.1 36 g_kind), (g_Abeside, z_a G.2.1 144 g_beside), (g_AbesideBits, z_l G.2.2.1 36 g_besideBits)]) rfl 3 rfl rfl rfl [] rfl (Nat.le_of_ble_eq_true rfl) ⟨Nat.le_of_ble_eq_true rfl, Nat.le_of_ble_eq_true rfl⟩ ⟨rfl, rfl⟩ ⟨Nat.zero_le _, Nat.zero_le _⟩ (fun hF => ?_)
        obtain ⟨hb_r4, -⟩ := hF
        refine z_if_eq (tgt := 58) C (z_n01 hb_r4) dX4_stepInto_21 (by decide) (fun c6 => ?_) (fun c6 => ?_)
        · have hm := z_pos c6 hm
          obtain ⟨c7, hm⟩ := z_chk_some hm
          refine z_iinc C dX4_stepInto_58 4 rfl (by decide) (L' := [(3, z_i (v3_1 + 1)), (4, z_i r2), (0, .ref t_o), (1, .ref g_o), (2, z_i x2)]) rfl ?_
          refine z_goto (tgt := 2) C dX4_stepInto_61 (by decide) ?_
          refine z_sub (L' := [(0, .ref t_o), (1, .ref g_o), (2, z_i x2), (3, z_i (v3_1 + 1))]) [2, 3, 4, 0] rfl ?_
          exact ih1 (v3_1 + 1) t_drops_1 c7 h_t_drops_1 hm
        · have hm := z_neg c6 hm
          refine z_aload_n C dX4_stepInto_24 2 rfl ?_
          refine z_iload_n C dX4_stepInto_25 3 rfl ?_
          obtain ⟨r8, k9, hm⟩ := z_b1s hm
          refine z_callVi C (k_X0_holds l G N g_o g_Akind g_Abeside g_AbesideBits g_rows g_columns g_cells g_kind g_beside g_besideBits x2 h_g_rows h_g_columns h_g_cells h_g_kind h_g_beside h_x2 r8 k9) zv_X0_holds zl_X4_71 dX4_stepInto_26 [3, 4, 5, 6] rfl rfl rfl (ws' := [(t_o, z_o 4 [.ref t_Aheight, .ref t_Adrops, z_i t_hours, .long t_restless]), (t_Aheight, z_a G.2.1 36 t_height), (t_Adrops, z_a G.2.1 36 t_drops_1), (g_o, z_o 0 [z_i g_rows, z_i g_columns, z_i g_cells, .ref g_Akind, .ref g_Abeside, .ref g_AbesideBits]), (g_Akind, z_a G.2.1 36 g_kind), (g_Abeside, z_a G.2.1 144 g_beside), (g_AbesideBits, z_l G.2.2.1 36 g_besideBits)]) rfl 3 rfl rfl rfl [] rfl (Nat.le_of_ble_eq_true rfl) ⟨Nat.le_of_ble_eq_true rfl, Nat.le_of_ble_eq_true rfl⟩ ⟨rfl, rfl⟩ ⟨Nat.zero_le _, Nat.zero_le _⟩ (fun hF => ?_)
          obtain ⟨hb_r8, -⟩ := hF
          refine z_if_eq (tgt := 58) C (z_n01 hb_r8) dX4_stepInto_29 (by decide) (fun c10 => ?_) (fun c10 => ?_)
          · have hm := z_pos c10 hm
            obtain ⟨c11, hm⟩ := z_chk_some hm
            refine z_iinc C dX4_stepInto_58 4 rfl (by decide) (L' := [(3, z_i (v3_1 + 1)), (4, z_i r2), (0, .ref t_o), (1, .ref g_o), (2, z_i x2)]) rfl ?_
            refine z_goto (tgt := 2) C dX4_stepInto_61 (by decide) ?_
            refine z_sub (L' := [(0, .ref t_o), (1, .ref g_o), (2, z_i x2), (3, z_i (v3_1 + 1))]) [2, 3, 4, 0] rfl ?_
            exact ih1 (v3_1 + 1) t_drops_1 c11 h_t_drops_1 hm
          · have hm := z_neg c10 hm
            refine z_aload_n C dX4_stepInto_32 1 rfl ?_
            refine z_get C zf_X4_15 dX4_stepInto_33 0 rfl rfl ?_
            refine z_iload_n C dX4_stepInto_36 3 rfl ?_
            obtain ⟨c12, hm⟩ := z_chk_some hm
            refine z_iald C dX4_stepInto_37 2 rfl c12 h_x2 ?_
            refine z_if_le (tgt := 58) C (h_t_drops_1 _) dX4_stepInto_38 (by decide) (fun c13 => ?_) (fun c13 => ?_)
            · have hm := z_pos c13 hm
              obtain ⟨c14, hm⟩ := z_chk_some hm
              refine z_iinc C dX4_stepInto_58 4 rfl (by decide) (L' := [(3, z_i (v3_1 + 1)), (4, z_i r2), (0, .ref t_o), (1, .ref g_o), (2, z_i x2)]) rfl ?_
              refine z_goto (tgt := 2) C dX4_stepInto_61 (by decide) ?_
              refine z_sub (L' := [(0, .ref t_o), (1, .ref g_o), (2, z_i x2), (3, z_i (v3_1 + 1))]) [2, 3, 4, 0] rfl ?_
              exact ih1 (v3_1 + 1) t_drops_1 c14 h_t_drops_1 hm
            · have hm := z_neg c13 hm
              refine z_aload_n C dX4_stepInto_41 1 rfl ?_
              refine z_get C zf_X4_15 dX4_stepInto_42 0 rfl rfl ?_
              refine z_iload_n C dX4_stepInto_45 3 rfl ?_
              refine z_dup2 C rfl rfl dX4_stepInto_46 ?_
              obtain ⟨c15, hm⟩ := z_chk_some hm
              refine z_iald C dX4_stepInto_47 2 rfl c15 h_x2 ?_
              refine z_iconst C dX4_stepInto_48 ?_
              obtain ⟨c16, hm⟩ := z_chk_some hm
              refine z_isub C dX4_stepInto_49 ?_
              obtain ⟨c17, hm⟩ := z_chk_some hm
              refine z_iast C dX4_stepInto_50 2 rfl c17 h_x2 (ws' := [(t_o, z_o 4 [.ref t_Aheight, .ref t_Adrops, z_i t_hours, .long t_restless]), (t_Aheight, z_a G.2.1 36 t_height), (t_Adrops, z_a G.2.1 36 (z_up t_drops_1 x2 ((t_drops_1 x2) - 1))), (g_o, z_o 0 [z_i g_rows, z_i g_columns, z_i g_cells, .ref g_Akind, .ref g_Abeside, .ref g_AbesideBits]), (g_Akind, z_a G.2.1 36 g_kind), (g_Abeside, z_a G.2.1 144 g_beside), (g_AbesideBits, z_l G.2.2.1 36 g_besideBits)]) rfl ?_
              refine z_aload_n C dX4_stepInto_51 1 rfl ?_
              refine z_aload_n C dX4_stepInto_52 2 rfl ?_
              refine z_iload C dX4_stepInto_53 0 rfl ?_
              obtain ⟨t_drops_18, k19, hm⟩ := z_b1s hm
              refine z_callVvd C (k_X4_putDrop l G N t_o t_Aheight t_Adrops g_o g_Akind g_Abeside g_AbesideBits t_height (z_up t_drops_1 x2 ((t_drops_1 x2) - 1)) t_hours t_restless g_rows g_columns g_cells g_kind g_beside g_besideBits r2 h_t_height (z_r_up h_t_drops_1 c16) h_t_hours h_g_rows h_g_columns h_g_cells h_g_kind h_g_beside h_r2 t_drops_18 k19) zv_X4_putDrop zl_X4_64 dX4_stepInto_55 rfl 0 rfl rfl rfl [] rfl (Nat.le_of_ble_eq_true rfl) ⟨Nat.le_of_ble_eq_true rfl, Nat.le_of_ble_eq_true rfl⟩ ⟨rfl, rfl⟩ ⟨Nat.zero_le _, Nat.zero_le _⟩ (fun hF => ?_)
              obtain ⟨h_t_drops_18, -⟩ := hF
              obtain ⟨c20, hm⟩ := z_chk_some hm
              refine z_iinc C dX4_stepInto_58 4 rfl (by decide) (L' := [(3, z_i (v3_1 + 1)), (4, z_i r2), (0, .ref t_o), (1, .ref g_o), (2, z_i x2)]) rfl ?_
              refine z_goto (tgt := 2) C dX4_stepInto_61 (by decide) ?_
              refine z_sub (L' := [(0, .ref t_o), (1, .ref g_o), (2, z_i x2), (3, z_i (v3_1 + 1))]) [2, 3, 4, 0] rfl ?_
              exact ih1 (v3_1 + 1) t_drops_18 c20 h_t_drops_18 hm
  refine z_sub (L' := [(0, .ref t_o), (1, .ref g_o), (2, z_i x2), (3, z_i 0)]) [1, 2, 3, 0] rfl ?_
  exact L1 N 0 t_drops (z_k 0 rfl) h_t_drops hl
set_option maxRecDepth 100000 in
theorem k_X5_boot (l : Launch) (G : z_G) (N : Nat) (m_o tx_o gr_o nw_o og_o la_o ss_o un_o kp_o m_AringCell m_AringDrops gr_Akind gr_Abeside gr_AbesideBits nw_Aheight nw_Adrops un_Aheights un_Adrops un_Ahours : Nat) (m_ringCell : (Int → Int)) (m_ringDrops : (Int → Int)) (m_rings : Int) (gr_rows : Int) (gr_columns : Int) (gr_cells : Int) (gr_kind : (Int → Int)) (gr_beside : (Int → Int)) (gr_besideBits : (Int → Int64)) (nw_height : (Int → Int)) (nw_drops : (Int → Int)) (nw_hours : Int) (nw_restless : Int64) (un_heights : (Int → Int)) (un_drops : (Int → Int)) (un_hours : (Int → Int)) (un_many : Int) (x1 : Int) (h_m_ringCell : z_r m_ringCell) (h_m_ringDrops : z_r m_ringDrops) (h_m_rings : z_n m_rings) (h_gr_rows : z_n gr_rows) (h_gr_columns : z_n gr_columns) (h_gr_cells : z_n gr_cells) (h_gr_kind : z_r gr_kind) (h_gr_beside : z_r gr_beside) (h_nw_height : z_r nw_height) (h_nw_drops : z_r nw_drops) (h_nw_hours : z_n nw_hours) (h_un_heights : z_r un_heights) (h_un_drops : z_r un_drops) (h_un_hours : z_r un_hours) (h_un_many : z_n un_many) (h_x1 : z_n x1) (rr : Int) (q_nw_drops : (Int → Int)) (q_nw_restless : Int64) (q_un_heights : (Int → Int)) (q_un_drops : (Int → Int)) (q_un_hours : (Int → Int)) (q_un_many : Int) (hm : m_X5_boot N gr_cells gr_kind gr_beside gr_besideBits nw_height nw_drops nw_hours nw_restless un_heights un_drops un_hours un_many x1 = some (rr, q_nw_drops, q_nw_restless, q_un_heights, q_un_drops, q_un_hours, q_un_many)) : z_M l G yX5_boot cX5_boot 2 (some .int) (k2_rm 6 134) [.ref m_o, z_i x1] ([(m_o, z_o 5 [.ref tx_o, .ref gr_o, .ref nw_o, .ref og_o, .ref la_o, .ref ss_o, .ref un_o, .ref kp_o, .ref m_AringCell, .ref m_AringDrops, z_i m_rings]), (m_AringCell, z_a G.2.1 6 m_ringCell), (m_AringDrops, z_a G.2.1 6 m_ringDrops), (gr_o, z_o 0 [z_i gr_rows, z_i gr_columns, z_i gr_cells, .ref gr_Akind, .ref gr_Abeside, .ref gr_AbesideBits]), (gr_Akind, z_a G.2.1 36 gr_kind), (gr_Abeside, z_a G.2.1 144 gr_beside), (gr_AbesideBits, z_l G.2.2.1 36 gr_besideBits), (nw_o, z_o 4 [.ref nw_Aheight, .ref nw_Adrops, z_i nw_hours, .long nw_restless]), (nw_Aheight, z_a G.2.1 36 nw_height), (nw_Adrops, z_a G.2.1 36 nw_drops), (un_o, z_o 1 [.ref un_Aheights, .ref un_Adrops, .ref un_Ahours, z_i un_many]), (un_Aheights, z_a G.2.1 288 un_heights), (un_Adrops, z_a G.2.1 288 un_drops), (un_Ahours, z_a G.2.1 8 un_hours)]) 0 0 (fun v w => v = some (z_i rr) ∧ w = [(m_o, z_o 5 [.ref tx_o, .ref gr_o, .ref nw_o, .ref og_o, .ref la_o, .ref ss_o, .ref un_o, .ref kp_o, .ref m_AringCell, .ref m_AringDrops, z_i m_rings]), (m_AringCell, z_a G.2.1 6 m_ringCell), (m_AringDrops, z_a G.2.1 6 m_ringDrops), (gr_o, z_o 0 [z_i gr_rows, z_i gr_columns, z_i gr_cells, .ref gr_Akind, .ref gr_Abeside, .ref gr_AbesideBits]), (gr_Akind, z_a G.2.1 36 gr_kind), (gr_Abeside, z_a G.2.1 144 gr_beside), (gr_AbesideBits, z_l G.2.2.1 36 gr_besideBits), (nw_o, z_o 4 [.ref nw_Aheight, .ref nw_Adrops, z_i nw_hours, .long q_nw_restless]), (nw_Aheight, z_a G.2.1 36 nw_height), (nw_Adrops, z_a G.2.1 36 q_nw_drops), (un_o, z_o 1 [.ref un_Aheights, .ref un_Adrops, .ref un_Ahours, z_i q_un_many]), (un_Aheights, z_a G.2.1 288 q_un_heights), (un_Adrops, z_a G.2.1 288 q_un_drops), (un_Ahours, z_a G.2.1 8 q_un_hours)] ∧ z_n rr ∧ z_r q_nw_drops ∧ z_r q_un_heights ∧ z_r q_un_drops ∧ z_r q_un_hours ∧ z_n q_un_many ∧ True) := by
  unfold m_X5_boot at hm
  refine z_M.intro (by decide +kernel) (Nat.le_of_ble_eq_true rfl) (L := [(0, .ref m_o), (1, z_i x1)]) rfl (fun X C E => ?_)
  refine z_aload_n C dX5_boot_0 0 rfl ?_
  refine z_get C zf_X5_19 dX5_boot_1 0 rfl rfl ?_
  refine z_iload_n C dX5_boot_4 1 rfl ?_
  obtain ⟨r1, k2, hm⟩ := z_b1s hm
  refine z_callVi C (k_X0_holds l G N gr_o gr_Akind gr_Abeside gr_AbesideBits gr_rows gr_columns gr_cells gr_kind gr_beside gr_besideBits x1 h_gr_rows h_gr_columns h_gr_cells h_gr_kind h_gr_beside h_x1 r1 k2) zv_X0_holds zl_X5_96 dX5_boot_5 [3, 4, 5, 6] rfl rfl rfl (ws' := [(m_o, z_o 5 [.ref tx_o, .ref gr_o, .ref nw_o, .ref og_o, .ref la_o, .ref ss_o, .ref un_o, .ref kp_o, .ref m_AringCell, .ref m_AringDrops, z_i m_rings]), (m_AringCell, z_a G.2.1 6 m_ringCell), (m_AringDrops, z_a G.2.1 6 m_ringDrops), (gr_o, z_o 0 [z_i gr_rows, z_i gr_columns, z_i gr_cells, .ref gr_Akind, .ref gr_Abeside, .ref gr_AbesideBits]), (gr_Akind, z_a G.2.1 36 gr_kind), (gr_Abeside, z_a G.2.1 144 gr_beside), (gr_AbesideBits, z_l G.2.2.1 36 gr_besideBits), (nw_o, z_o 4 [.ref nw_Aheight, .ref nw_Adrops, z_i nw_hours, .long nw_restless]), (nw_Aheight, z_a G.2.1 36 nw_height), (nw_Adrops, z_a G.2.1 36 nw_drops), (un_o, z_o 1 [.ref un_Aheights, .ref un_Adrops, .ref un_Ahours, z_i un_many]), (un_Aheights, z_a G.2.1 288 un_heights), (un_Adrops, z_a G.2.1 288 un_drops), (un_Ahours, z_a G.2.1 8 un_hours)]) rfl 3 rfl rfl rfl [] rfl (Nat.le_of_ble_eq_true rfl) ⟨Nat.le_of_ble_eq_true rfl, Nat.le_of_ble_eq_true rfl⟩ ⟨rfl, rfl⟩ ⟨Nat.zero_le _, Nat.zero_le _⟩ (fun hF => ?_)
  obtain ⟨hb_r1, -⟩ := hF
  refine z_if_ne (tgt := 13) C (z_n01 hb_r1) dX5_boot_8 (by decide) (fun c3 => ?_) (fun c3 => ?_)
  · have hm := z_pos c3 hm
    refine z_aload_n C dX5_boot_13 0 rfl ?_
    refine z_get C zf_X5_26 dX5_boot_14 0 rfl rfl ?_
    refine z_get C zf_X5_110 dX5_boot_17 7 rfl rfl ?_
    refine z_iload_n C dX5_boot_20 1 rfl ?_
    obtain ⟨c4, hm⟩ := z_chk_some hm
    refine z_iald C dX5_boot_21 9 rfl c4 h_x1 ?_
    refine z_if_ne (tgt := 28) C (h_nw_drops _) dX5_boot_22 (by decide) (fun c5 => ?_) (fun c5 => ?_)
    · have hm := z_pos c5 hm
      refine z_aload_n C dX5_boot_28 0 rfl ?_
      refine z_get C zf_X5_46 dX5_boot_29 0 rfl rfl ?_
      refine z_aload_n C dX5_boot_32 0 rfl ?_
      refine z_get C zf_X5_26 dX5_boot_33 0 rfl rfl ?_
      obtain ⟨un_heights_6, un_drops_7, un_hours_8, un_many_9, k10, hm⟩ := z_b4s hm
      refine z_callVv C (k_X1_push l G N un_o un_Aheights un_Adrops un_Ahours nw_o nw_Aheight nw_Adrops un_heights un_drops un_hours un_many nw_height nw_drops nw_hours nw_restless h_un_heights h_un_drops h_un_hours h_un_many h_nw_height h_nw_drops h_nw_hours un_heights_6 un_drops_7 un_hours_8 un_many_9 k10) zv_X1_push zl_X5_128 dX5_boot_36 [10, 11, 12, 13, 7, 8, 9] rfl rfl rfl (ws' := [(m_o, z_o 5 [.ref tx_o, .ref gr_o, .ref nw_o, .ref og_o, .ref la_o, .ref ss_o, .ref un_o, .ref kp_o, .ref m_AringCell, .ref m_AringDrops, z_i m_rings]), (m_AringCell, z_a G.2.1 6 m_ringCell), (m_AringDrops, z_a G.2.1 6 m_ringDrops), (gr_o, z_o 0 [z_i gr_rows, z_i gr_columns, z_i gr_cells, .ref gr_Akind, .ref gr_Abeside, .ref gr_AbesideBits]), (gr_Akind, z_a G.2.1 36 gr_kind), (gr_Abeside, z_a G.2.1 144 gr_beside), (gr_AbesideBits, z_l G.2.2.1 36 gr_besideBits), (nw_o, z_o 4 [.ref nw_Aheight, .ref nw_Adrops, z_i nw_hours, .long nw_restless]), (nw_Aheight, z_a G.2.1 36 nw_height), (nw_Adrops, z_a G.2.1 36 nw_drops), (un_o, z_o 1 [.ref un_Aheights, .ref un_Adrops, .ref un_Ahours, z_i un_many_9]), (un_Aheights, z_a G.2.1 288 un_heights_6), (un_Adrops, z_a G.2.1 288 un_drops_7), (un_Ahours, z_a G.2.1 8 un_hours_8)]) rfl 10 rfl rfl rfl [] rfl (Nat.le_of_ble_eq_true rfl) ⟨Nat.le_of_ble_eq_true rfl, Nat.le_of_ble_eq_true rfl⟩ ⟨rfl, rfl⟩ ⟨Nat.zero_le _, Nat.zero_le _⟩ (fun hF => ?_)
      obtain ⟨h_un_heights_6, h_un_drops_7, h_un_hours_8, h_un_many_9, -⟩ := hF
      refine z_aload_n C dX5_boot_39 0 rfl ?_
      refine z_get C zf_X5_26 dX5_boot_40 0 rfl rfl ?_
      refine z_aload_n C dX5_boot_43 0 rfl ?_
      refine z_get C zf_X5_19 dX5_boot_44 0 rfl rfl ?_
      refine z_iload_n C dX5_boot_47 1 rfl ?_
      obtain ⟨nw_drops_11, nw_restless_12, k13, hm⟩ := z_b2s hm
      refine z_callVv C (k_X4_stepInto l G N nw_o nw_Aheight nw_Adrops gr_o gr_Akind gr_Abeside gr_AbesideBits nw_height nw_drops nw_hours nw_restless gr_rows gr_columns gr_cells gr_kind gr_beside gr_besideBits x1 h_nw_height h_nw_drops h_nw_hours h_gr_rows h_gr_columns h_gr_cells h_gr_kind h_gr_beside h_x1 nw_drops_11 nw_restless_12 k13) zv_X4_stepInto zl_X5_146 dX5_boot_48 [7, 8, 9, 3, 4, 5, 6] rfl rfl rfl (ws' := [(m_o, z_o 5 [.ref tx_o, .ref gr_o, .ref nw_o, .ref og_o, .ref la_o, .ref ss_o, .ref un_o, .ref kp_o, .ref m_AringCell, .ref m_AringDrops, z_i m_rings]), (m_AringCell, z_a G.2.1 6 m_ringCell), (m_AringDrops, z_a G.2.1 6 m_ringDrops), (gr_o, z_o 0 [z_i gr_rows, z_i gr_columns, z_i gr_cells, .ref gr_Akind, .ref gr_Abeside, .ref gr_AbesideBits]), (gr_Akind, z_a G.2.1 36 gr_kind), (gr_Abeside, z_a G.2.1 144 gr_beside), (gr_AbesideBits, z_l G.2.2.1 36 gr_besideBits), (nw_o, z_o 4 [.ref nw_Aheight, .ref nw_Adrops, z_i nw_hours, .long nw_restless_12]), (nw_Aheight, z_a G.2.1 36 nw_height), (nw_Adrops, z_a G.2.1 36 nw_drops_11), (un_o, z_o 1 [.ref un_Aheights, .ref un_Adrops, .ref un_Ahours, z_i un_many_9]), (un_Aheights, z_a G.2.1 288 un_heights_6), (un_Adrops, z_a G.2.1 288 un_drops_7), (un_Ahours, z_a G.2.1 8 un_hours_8)]) rfl 7 rfl rfl rfl [] rfl (Nat.le_of_ble_eq_true rfl) ⟨Nat.le_of_ble_eq_true rfl, Nat.le_of_ble_eq_true rfl⟩ ⟨rfl, rfl⟩ ⟨Nat.zero_le _, Nat.zero_le _⟩ (fun hF => ?_)
      obtain ⟨h_nw_drops_11, -⟩ := hF
      refine z_aload_n C dX5_boot_51 0 rfl ?_
      refine z_get C zf_X5_26 dX5_boot_52 0 rfl rfl ?_
      refine z_get C zf_X5_110 dX5_boot_55 7 rfl rfl ?_
      refine z_iload_n C dX5_boot_58 1 rfl ?_
      obtain ⟨c14, hm⟩ := z_chk_some hm
      refine z_iald C dX5_boot_59 9 rfl c14 h_x1 ?_
      cases hm
      exact z_iret C E dX5_boot_60 ⟨rfl, rfl, (h_nw_drops_11 _), h_nw_drops_11, h_un_heights_6, h_un_drops_7, h_un_hours_8, h_un_many_9, trivial⟩
    · have hm := z_neg c5 hm
      refine z_bipush C dX5_boot_25 (by decide) ?_
      cases hm
      exact z_iret C E dX5_boot_27 ⟨rfl, rfl, (z_k (-2) rfl), h_nw_drops, h_un_heights, h_un_drops, h_un_hours, h_un_many, trivial⟩
  · have hm := z_neg c3 hm
    refine z_iconst C dX5_boot_11 ?_
    cases hm
    exact z_iret C E dX5_boot_12 ⟨rfl, rfl, (z_k (-1) rfl), h_nw_drops, h_un_heights, h_un_drops, h_un_hours, h_un_many, trivial⟩
