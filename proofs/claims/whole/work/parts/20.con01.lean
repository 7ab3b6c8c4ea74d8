set_option maxRecDepth 100000 in
theorem k_X0_walkable (l : Launch) (G : z_G) (N : Nat) (t_o t_Akind t_Abeside t_AbesideBits : Nat) (t_rows : Int) (t_columns : Int) (t_cells : Int) (t_kind : (Int → Int)) (t_beside : (Int → Int)) (t_besideBits : (Int → Int64)) (x1 : Int) (x2 : Int) (h_t_rows : z_n t_rows) (h_t_columns : z_n t_columns) (h_t_cells : z_n t_cells) (h_t_kind : z_r t_kind) (h_t_beside : z_r t_beside) (h_x1 : z_n x1) (h_x2 : z_n x2) (rr : Int) (hm : m_X0_walkable N t_rows t_columns t_cells t_kind x1 x2 = some (rr)) : z_M l G yX0_walkable cX0_walkable 4 (some .int) (k2_rm 1 21) [.ref t_o, z_i x1, z_i x2] ([(t_o, z_o 0 [z_i t_rows, z_i t_columns, z_i t_cells, .ref t_Akind, .ref t_Abeside, .ref t_AbesideBits]), (t_Akind, z_a G.2.1 36 t_kind), (t_Abeside, z_a G.2.1 144 t_beside), (t_AbesideBits, z_l G.2.2.1 36 t_besideBits)]) 0 0 (fun v w => v = some (z_i rr) ∧ w = [(t_o, z_o 0 [z_i t_rows, z_i t_columns, z_i t_cells, .ref t_Akind, .ref t_Abeside, .ref t_AbesideBits]), (t_Akind, z_a G.2.1 36 t_kind), (t_Abeside, z_a G.2.1 144 t_beside), (t_AbesideBits, z_l G.2.2.1 36 t_besideBits)] ∧ z_n rr ∧ True) := by
  unfold m_X0_walkable at hm
  refine z_M.intro (by decide +kernel) (Nat.le_of_ble_eq_true rfl) (L := [(0, .ref t_o), (1, z_i x1), (2, z_i x2)]) rfl (fun X C E => ?_)
  refine z_iload_n C dX0_walkable_0 1 rfl ?_
  refine z_if_lt (tgt := 24) C h_x1 dX0_walkable_1 (by decide) (fun c1 => ?_) (fun c1 => ?_)
  · have hm := z_pos c1 hm
    refine z_bipush C dX0_walkable_24 (by decide) ?_
    cases hm
    exact z_iret C E dX0_walkable_26 ⟨rfl, rfl, (z_k (-4) rfl), trivial⟩
  · have hm := z_neg c1 hm
    refine z_iload_n C dX0_walkable_4 1 rfl ?_
    refine z_aload_n C dX0_walkable_5 0 rfl ?_
    refine z_get C zf_X0_9 dX0_walkable_6 0 rfl rfl ?_
    refine z_icmp_ge (tgt := 24) C h_x1 h_t_rows dX0_walkable_9 (by decide) (fun c2 => ?_) (fun c2 => ?_)
    · have hm := z_pos c2 hm
      refine z_bipush C dX0_walkable_24 (by decide) ?_
      cases hm
      exact z_iret C E dX0_walkable_26 ⟨rfl, rfl, (z_k (-4) rfl), trivial⟩
    · have hm := z_neg c2 hm
      refine z_iload_n C dX0_walkable_12 2 rfl ?_
      refine z_if_lt (tgt := 24) C h_x2 dX0_walkable_13 (by decide) (fun c3 => ?_) (fun c3 => ?_)
      · have hm := z_pos c3 hm
        refine z_bipush C dX0_walkable_24 (by decide) ?_
        cases hm
        exact z_iret C E dX0_walkable_26 ⟨rfl, rfl, (z_k (-4) rfl), trivial⟩
      · have hm := z_neg c3 hm
        refine z_iload_n C dX0_walkable_16 2 rfl ?_
        refine z_aload_n C dX0_walkable_17 0 rfl ?_
        refine z_get C zf_X0_15 dX0_walkable_18 0 rfl rfl ?_
        refine z_icmp_lt (tgt := 27) C h_x2 h_t_columns dX0_walkable_21 (by decide) (fun c4 => ?_) (fun c4 => ?_)
        · have hm := z_pos c4 hm
          refine z_iload_n C dX0_walkable_27 1 rfl ?_
          refine z_aload_n C dX0_walkable_28 0 rfl ?_
          refine z_get C zf_X0_15 dX0_walkable_29 0 rfl rfl ?_
          obtain ⟨c5, hm⟩ := z_chk_some hm
          refine z_imul C dX0_walkable_32 ?_
          refine z_iload_n C dX0_walkable_33 2 rfl ?_
          obtain ⟨c6, hm⟩ := z_chk_some hm
          refine z_iadd C dX0_walkable_34 ?_
          refine z_istore_n C dX0_walkable_35 (by decide) (L' := [(3, z_i ((x1 * t_columns) + x2)), (0, .ref t_o), (1, z_i x1), (2, z_i x2)]) rfl ?_
          refine z_aload_n C dX0_walkable_36 1 rfl ?_
          refine z_iload_n C dX0_walkable_37 0 rfl ?_
          obtain ⟨r7, k8, hm⟩ := z_b1s hm
          refine z_callVi C (k_X0_holds l G N t_o t_Akind t_Abeside t_AbesideBits t_rows t_columns t_cells t_kind t_beside t_besideBits ((x1 * t_columns) + x2) h_t_rows h_t_columns h_t_cells h_t_kind h_t_beside c6 r7 k8) zv_X0_holds zl_X0_46 dX0_walkable_38 [0, 1, 2, 3] rfl rfl rfl (ws' := [(t_o, z_o 0 [z_i t_rows, z_i t_columns, z_i t_cells, .ref t_Akind, .ref t_Abeside, .ref t_AbesideBits]), (t_Akind, z_a G.2.1 36 t_kind), (t_Abeside, z_a G.2.1 144 t_beside), (t_AbesideBits, z_l G.2.2.1 36 t_besideBits)]) rfl 0 rfl rfl rfl [] rfl (Nat.le_of_ble_eq_true rfl) ⟨Nat.le_of_ble_eq_true rfl, Nat.le_of_ble_eq_true rfl⟩ ⟨rfl, rfl⟩ ⟨Nat.zero_le _, Nat.zero_le _⟩ (fun hF => ?_)
          obtain ⟨hb_r7, -⟩ := hF
          refine z_if_eq (tgt := 58) C (z_n01 hb_r7) dX0_walkable_41 (by decide) (fun c9 => ?_) (fun c9 => ?_)
          · have hm := z_pos c9 hm
            refine z_bipush C dX0_walkable_58 (by decide) ?_
            cases hm
            exact z_iret C E dX0_walkable_60 ⟨rfl, rfl, (z_k (-4) rfl), trivial⟩
          · have hm := z_neg c9 hm
            refine z_aload_n C dX0_walkable_44 1 rfl ?_
            refine z_get C zf_X0_21 dX0_walkable_45 0 rfl rfl ?_
            refine z_iload_n C dX0_walkable_48 0 rfl ?_
            obtain ⟨c10, hm⟩ := z_chk_some hm
            refine z_iald C dX0_walkable_49 1 rfl c10 c6 ?_
            refine z_iconst C dX0_walkable_50 ?_
            refine z_icmp_eq (tgt := 58) C (h_t_kind _) (z_k 3 rfl) dX0_walkable_51 (by decide) (fun c11 => ?_) (fun c11 => ?_)
            · have hm := z_pos c11 hm
              refine z_bipush C dX0_walkable_58 (by decide) ?_
              cases hm
              exact z_iret C E dX0_walkable_60 ⟨rfl, rfl, (z_k (-4) rfl), trivial⟩
            · have hm := z_neg c11 hm
              refine z_iload_n C dX0_walkable_54 0 rfl ?_
              refine z_goto (tgt := 60) C dX0_walkable_55 (by decide) ?_
              cases hm
              exact z_iret C E dX0_walkable_60 ⟨rfl, rfl, c6, trivial⟩
        · have hm := z_neg c4 hm
          refine z_bipush C dX0_walkable_24 (by decide) ?_
          cases hm
          exact z_iret C E dX0_walkable_26 ⟨rfl, rfl, (z_k (-4) rfl), trivial⟩
set_option maxRecDepth 100000 in
theorem k_X0_linkSide (l : Launch) (G : z_G) (N : Nat) (t_o t_Akind t_Abeside t_AbesideBits : Nat) (t_rows : Int) (t_columns : Int) (t_cells : Int) (t_kind : (Int → Int)) (t_beside : (Int → Int)) (t_besideBits : (Int → Int64)) (x1 : Int) (x2 : Int) (x3 : Int) (x4 : Int) (h_t_rows : z_n t_rows) (h_t_columns : z_n t_columns) (h_t_cells : z_n t_cells) (h_t_kind : z_r t_kind) (h_t_beside : z_r t_beside) (h_x1 : z_n x1) (h_x2 : z_n x2) (h_x3 : z_n x3) (h_x4 : z_n x4) (q_t_beside : (Int → Int)) (q_t_besideBits : (Int → Int64)) (hm : m_X0_linkSide N t_rows t_columns t_cells t_kind t_beside t_besideBits x1 x2 x3 x4 = some (q_t_beside, q_t_besideBits)) : z_M l G yX0_linkSide cX0_linkSide 6 none (k2_rm 2 44) [.ref t_o, z_i x1, z_i x2, z_i x3, z_i x4] ([(t_o, z_o 0 [z_i t_rows, z_i t_columns, z_i t_cells, .ref t_Akind, .ref t_Abeside, .ref t_AbesideBits]), (t_Akind, z_a G.2.1 36 t_kind), (t_Abeside, z_a G.2.1 144 t_beside), (t_AbesideBits, z_l G.2.2.1 36 t_besideBits)]) 0 0 (fun v w => v = none ∧ w = [(t_o, z_o 0 [z_i t_rows, z_i t_columns, z_i t_cells, .ref t_Akind, .ref t_Abeside, .ref t_AbesideBits]), (t_Akind, z_a G.2.1 36 t_kind), (t_Abeside, z_a G.2.1 144 q_t_beside), (t_AbesideBits, z_l G.2.2.1 36 q_t_besideBits)] ∧ z_r q_t_beside ∧ True) := by
  unfold m_X0_linkSide at hm
  refine z_M.intro (by decide +kernel) (Nat.le_of_ble_eq_true rfl) (L := [(0, .ref t_o), (1, z_i x1), (2, z_i x2), (3, z_i x3), (4, z_i x4)]) rfl (fun X C E => ?_)
  refine z_iload_n C dX0_linkSide_0 1 rfl ?_
  refine z_iconst C dX0_linkSide_1 ?_
  obtain ⟨c1, hm⟩ := z_chk_some hm
  refine z_imul C dX0_linkSide_2 ?_
  refine z_iload_n C dX0_linkSide_3 2 rfl ?_
  obtain ⟨c2, hm⟩ := z_chk_some hm
  refine z_iadd C dX0_linkSide_4 ?_
  refine z_istore C dX0_linkSide_5 (by decide) (L' := [(5, z_i ((x1 * 4) + x2)), (0, .ref t_o), (1, z_i x1), (2, z_i x2), (3, z_i x3), (4, z_i x4)]) rfl ?_
  refine z_aload_n C dX0_linkSide_7 1 rfl ?_
  refine z_iload_n C dX0_linkSide_8 2 rfl ?_
  obtain ⟨r3, k4, hm⟩ := z_b1s hm
  refine z_callVi C (k_X0_holds l G N t_o t_Akind t_Abeside t_AbesideBits t_rows t_columns t_cells t_kind t_beside t_besideBits x1 h_t_rows h_t_columns h_t_cells h_t_kind h_t_beside h_x1 r3 k4) zv_X0_holds zl_X0_46 dX0_linkSide_9 [0, 1, 2, 3] rfl rfl rfl (ws' := [(t_o, z_o 0 [z_i t_rows, z_i t_columns, z_i t_cells, .ref t_Akind, .ref t_Abeside, .ref t_AbesideBits]), (t_Akind, z_a G.2.1 36 t_kind), (t_Abeside, z_a G.2.1 144 t_beside), (t_AbesideBits, z_l G.2.2.1 36 t_besideBits)]) rfl 0 rfl rfl rfl [] rfl (Nat.le_of_ble_eq_true rfl) ⟨Nat.le_of_ble_eq_true rfl, Nat.le_of_ble_eq_true rfl⟩ ⟨rfl, rfl⟩ ⟨Nat.zero_le _, Nat.zero_le _⟩ (fun hF => ?_)
  obtain ⟨hb_r3, -⟩ := hF
  refine z_if_eq (tgt := 30) C (z_n01 hb_r3) dX0_linkSide_12 (by decide) (fun c5 => ?_) (fun c5 => ?_)
  · have hm := z_pos c5 hm
    cases hm
    exact z_vret C E dX0_linkSide_30 ⟨rfl, rfl, h_t_beside, trivial⟩
  · have hm := z_neg c5 hm
    refine z_iload C dX0_linkSide_15 0 rfl ?_
    refine z_if_lt (tgt := 30) C c2 dX0_linkSide_17 (by decide) (fun c6 => ?_) (fun c6 => ?_)
    · have hm := z_pos c6 hm
      cases hm
      exact z_vret C E dX0_linkSide_30 ⟨rfl, rfl, h_t_beside, trivial⟩
    · have hm := z_neg c6 hm
      refine z_iload C dX0_linkSide_20 0 rfl ?_
      refine z_aload_n C dX0_linkSide_22 1 rfl ?_
      refine z_get C zf_X0_25 dX0_linkSide_23 0 rfl rfl ?_
      refine z_alen_i (x := 144) C dX0_linkSide_26 2 rfl rfl ?_
      refine z_icmp_lt (tgt := 31) C c2 (z_k 144 rfl) dX0_linkSide_27 (by decide) (fun c7 => ?_) (fun c7 => ?_)
      · have hm := z_pos c7 hm
        refine z_aload_n C dX0_linkSide_31 1 rfl ?_
        refine z_get C zf_X0_25 dX0_linkSide_32 0 rfl rfl ?_
        refine z_iload C dX0_linkSide_35 0 rfl ?_
        refine z_aload_n C dX0_linkSide_37 1 rfl ?_
        refine z_iload_n C dX0_linkSide_38 4 rfl ?_
        refine z_iload C dX0_linkSide_39 5 rfl ?_
        obtain ⟨r8, k9, hm⟩ := z_b1s hm
        refine z_callVi C (k_X0_walkable l G N t_o t_Akind t_Abeside t_AbesideBits t_rows t_columns t_cells t_kind t_beside t_besideBits x3 x4 h_t_rows h_t_columns h_t_cells h_t_kind h_t_beside h_x3 h_x4 r8 k9) zv_X0_walkable zl_X0_66 dX0_linkSide_41 [0, 1, 2, 3] rfl rfl rfl (ws' := [(t_o, z_o 0 [z_i t_rows, z_i t_columns, z_i t_cells, .ref t_Akind, .ref t_Abeside, .ref t_AbesideBits]), (t_Akind, z_a G.2.1 36 t_kind), (t_Abeside, z_a G.2.1 144 t_beside), (t_AbesideBits, z_l G.2.2.1 36 t_besideBits)]) rfl 0 rfl rfl rfl [z_i ((x1 * 4) + x2), .ref t_Abeside] rfl (Nat.le_of_ble_eq_true rfl) ⟨Nat.le_of_ble_eq_true rfl, Nat.le_of_ble_eq_true rfl⟩ ⟨rfl, rfl⟩ ⟨Nat.zero_le _, Nat.zero_le _⟩ (fun hF => ?_)
        obtain ⟨h_r8, -⟩ := hF
        obtain ⟨c10, hm⟩ := z_chk_some hm
        refine z_iast C dX0_linkSide_44 2 rfl c10 c2 (ws' := [(t_o, z_o 0 [z_i t_rows, z_i t_columns, z_i t_cells, .ref t_Akind, .ref t_Abeside, .ref t_AbesideBits]), (t_Akind, z_a G.2.1 36 t_kind), (t_Abeside, z_a G.2.1 144 (z_up t_beside ((x1 * 4) + x2) r8)), (t_AbesideBits, z_l G.2.2.1 36 t_besideBits)]) rfl ?_
        refine z_aload_n C dX0_linkSide_45 1 rfl ?_
        refine z_get C zf_X0_25 dX0_linkSide_46 0 rfl rfl ?_
        refine z_iload C dX0_linkSide_49 0 rfl ?_
        obtain ⟨c11, hm⟩ := z_chk_some hm
        refine z_iald C dX0_linkSide_51 2 rfl c11 c2 ?_
        refine z_bipush C dX0_linkSide_52 (by decide) ?_
        refine z_icmp_eq (tgt := 75) C ((z_r_up h_t_beside h_r8) _) (z_k (-4) rfl) dX0_linkSide_54 (by decide) (fun c12 => ?_) (fun c12 => ?_)
        · have hm := z_pos c12 hm
          cases hm
          exact z_vret C E dX0_linkSide_75 ⟨rfl, rfl, (z_r_up h_t_beside h_r8), trivial⟩
        · have hm := z_neg c12 hm
          refine z_aload_n C dX0_linkSide_57 1 rfl ?_
          refine z_get C zf_X0_28 dX0_linkSide_58 0 rfl rfl ?_
          refine z_iload_n C dX0_linkSide_61 2 rfl ?_
          refine z_dup2 C rfl rfl dX0_linkSide_62 ?_
          obtain ⟨c13, hm⟩ := z_chk_some hm
          refine z_lald C dX0_linkSide_63 3 rfl c13 h_x1 ?_
          refine z_lconst (v := (1 : Int64)) C dX0_linkSide_64 (by decide) ?_
          refine z_aload_n C dX0_linkSide_65 1 rfl ?_
          refine z_get C zf_X0_25 dX0_linkSide_66 0 rfl rfl ?_
          refine z_iload C dX0_linkSide_69 0 rfl ?_
          obtain ⟨c14, hm⟩ := z_chk_some hm
          refine z_iald C dX0_linkSide_71 2 rfl c14 c2 ?_
          refine z_lshlR C dX0_linkSide_72 ?_
          refine z_lor C dX0_linkSide_73 ?_
          obtain ⟨c15, hm⟩ := z_chk_some hm
          refine z_last C dX0_linkSide_74 3 rfl c15 h_x1 (ws' := [(t_o, z_o 0 [z_i t_rows, z_i t_columns, z_i t_cells, .ref t_Akind, .ref t_Abeside, .ref t_AbesideBits]), (t_Akind, z_a G.2.1 36 t_kind), (t_Abeside, z_a G.2.1 144 (z_up t_beside ((x1 * 4) + x2) r8)), (t_AbesideBits, z_l G.2.2.1 36 (z_up t_besideBits x1 ((t_besideBits x1) ||| (z_lshl (1 : Int64) ((z_up t_beside ((x1 * 4) + x2) r8) ((x1 * 4) + x2))))))]) rfl ?_
          cases hm
          exact z_vret C E dX0_linkSide_75 ⟨rfl, rfl, (z_r_up h_t_beside h_r8), trivial⟩
      · have hm := z_neg c7 hm
        cases hm
        exact z_vret C E dX0_linkSide_30 ⟨rfl, rfl, h_t_beside, trivial⟩
set_option maxRecDepth 100000 in
theorem k_X0_link (l : Launch) (G : z_G) (N : Nat) (t_o t_Akind t_Abeside t_AbesideBits : Nat) (t_rows : Int) (t_columns : Int) (t_cells : Int) (t_kind : (Int → Int)) (t_beside : (Int → Int)) (t_besideBits : (Int → Int64)) (h_t_rows : z_n t_rows) (h_t_columns : z_n t_columns) (h_t_cells : z_n t_cells) (h_t_kind : z_r t_kind) (h_t_beside : z_r t_beside) (q_t_beside : (Int → Int)) (q_t_besideBits : (Int → Int64)) (hm : m_X0_link N t_rows t_columns t_cells t_kind t_beside t_besideBits = some (q_t_beside, q_t_besideBits)) : z_M l G yX0_link cX0_link 4 none (k2_rm 3 69) [.ref t_o] ([(t_o, z_o 0 [z_i t_rows, z_i t_columns, z_i t_cells, .ref t_Akind, .ref t_Abeside, .ref t_AbesideBits]), (t_Akind, z_a G.2.1 36 t_kind), (t_Abeside, z_a G.2.1 144 t_beside), (t_AbesideBits, z_l G.2.2.1 36 t_besideBits)]) 0 0 (fun v w => v = none ∧ w = [(t_o, z_o 0 [z_i t_rows, z_i t_columns, z_i t_cells, .ref t_Akind, .ref t_Abeside, .ref t_AbesideBits]), (t_Akind, z_a G.2.1 36 t_kind), (t_Abeside, z_a G.2.1 144 q_t_beside), (t_AbesideBits, z_l G.2.2.1 36 q_t_besideBits)] ∧ z_r q_t_beside ∧ True) := by
  unfold m_X0_link at hm
  refine z_M.intro (by decide +kernel) (Nat.le_of_ble_eq_true rfl) (L := [(0, .ref t_o)]) rfl (fun X C E => ?_)
  refine z_aload_n C dX0_link_0 0 rfl ?_
  refine z_get C zf_X0_28 dX0_link_1 0 rfl rfl ?_
  refine z_lconst (v := (0 : Int64)) C dX0_link_4 (by decide) ?_
  obtain ⟨t_besideBits_1, k2, hm⟩ := z_b1s hm
  refine z_callSv C (k_J7_fill_d0a16 l G N t_AbesideBits 36 t_besideBits (0 : Int64) (z_k 36 rfl) t_besideBits_1 k2) zs_J7_fill_d0a16 zl_X0_59 dX0_link_5 [3] rfl rfl rfl (ws' := [(t_o, z_o 0 [z_i t_rows, z_i t_columns, z_i t_cells, .ref t_Akind, .ref t_Abeside, .ref t_AbesideBits]), (t_Akind, z_a G.2.1 36 t_kind), (t_Abeside, z_a G.2.1 144 t_beside), (t_AbesideBits, z_l G.2.2.1 36 t_besideBits_1)]) rfl rfl [] rfl (Nat.le_of_ble_eq_true rfl) ⟨Nat.le_of_ble_eq_true rfl, Nat.le_of_ble_eq_true rfl⟩ ⟨rfl, rfl⟩ ⟨Nat.zero_le _, Nat.zero_le _⟩ (fun hF => ?_)
  refine z_iconst C dX0_link_8 ?_
  refine z_istore_n C dX0_link_9 (by decide) (L' := [(1, z_i 0), (0, .ref t_o)]) rfl ?_
  obtain ⟨o_t_beside_1, o_t_besideBits_1, hl, hm⟩ := z_b2s hm
  have JX1 : z_r o_t_beside_1 → z_J X 0 0 ([(t_o, z_o 0 [z_i t_rows, z_i t_columns, z_i t_cells, .ref t_Akind, .ref t_Abeside, .ref t_AbesideBits]), (t_Akind, z_a G.2.1 36 t_kind), (t_Abeside, z_a G.2.1 144 o_t_beside_1), (t_AbesideBits, z_l G.2.2.1 36 o_t_besideBits_1)]) [] 101 [] := by
    intro h_o_t_beside_1
    clear hl
    cases hm
    exact z_vret C E dX0_link_101 ⟨rfl, rfl, h_o_t_beside_1, trivial⟩
  clear hm
  have L1 : ∀ (n1 : Nat) (v1_1 : Int) (t_beside_1 : (Int → Int)) (t_besideBits_1 : (Int → Int64)), z_n v1_1 → z_r t_beside_1 → m_X0_link_l1 N t_rows t_columns t_cells t_kind n1 v1_1 t_beside_1 t_besideBits_1 = some (o_t_beside_1, o_t_besideBits_1) → z_J X 0 0 ([(t_o, z_o 0 [z_i t_rows, z_i t_columns, z_i t_cells, .ref t_Akind, .ref t_Abeside, .ref t_AbesideBits]), (t_Akind, z_a G.2.1 36 t_kind), (t_Abeside, z_a G.2.1 144 t_beside_1), (t_AbesideBits, z_l G.2.2.1 36 t_besideBits_1)]) [(0, .ref t_o), (1, z_i v1_1)] 10 [] := by
    clear hl
    intro n1
    induction n1 with
    | zero =>
      intro v1_1 t_beside_1 t_besideBits_1 h_v1_1 h_t_beside_1 hm
      rw [m_X0_link_l1] at hm
      cases hm
    | succ n1 ih1 =>
      intro v1_1 t_beside_1 t_besideBits_1 h_v1_1 h_t_beside_1 hm
      rw [m_X0_link_l1] at hm
      refine z_iload_n C dX0_link_10 1 rfl ?_
      refine z_aload_n C dX0_link_11 0 rfl ?_
      refine z_get C zf_X0_9 dX0_link_12 0 rfl rfl ?_
      refine z_icmp_ge (tgt := 101) C h_v1_1 h_t_rows dX0_link_15 (by decide) (fun c3 => ?_) (fun c3 => ?_)
      · have hm := z_pos c3 hm
        refine z_sub (L' := []) [] rfl ?_
        cases hm
        exact JX1 h_t_beside_1
      · have hm := z_neg c3 hm
        refine z_iload_n C dX0_link_18 1 rfl ?_
        refine z_bipush C dX0_link_19 (by decide) ?_
        refine z_icmp_ge (tgt := 101) C h_v1_1 (z_k 6 rfl) dX0_link_21 (by decide) (fun c4 => ?_) (fun c4 => ?_)
        · have hm := z_pos c4 hm
          refine z_sub (L' := []) [] rfl ?_
          cases hm
          exact JX1 h_t_beside_1
        · have hm := z_neg c4 hm
          refine z_iconst C dX0_link_24 ?_
          refine z_istore_n C dX0_link_25 (by decide) (L' := [(2, z_i 0), (0, .ref t_o), (1, z_i v1_1)]) rfl ?_
          obtain ⟨o_t_beside_2, o_t_besideBits_2, hl, hm⟩ := z_b2s hm
          have JX2 : z_r o_t_beside_2 → z_J X 0 0 ([(t_o, z_o 0 [z_i t_rows, z_i t_columns, z_i t_cells, .ref t_Akind, .ref t_Abeside, .ref t_AbesideBits]), (t_Akind, z_a G.2.1 36 t_kind), (t_Abeside, z_a G.2.1 144 o_t_beside_2), (t_AbesideBits, z_l G.2.2.1 36 o_t_besideBits_2)]) [(0, .ref t_o), (1, z_i v1_1)] 95 [] := by
            intro h_o_t_beside_2
            clear hl
            obtain ⟨c26, hm⟩ := z_chk_some hm
            refine z_iinc C dX0_link_95 1 rfl (by decide) (L' := [(1, z_i (v1_1 + 1)), (0, .ref t_o)]) rfl ?_
            refine z_goto (tgt := 10) C dX0_link_98 (by decide) ?_
            refine z_sub (L' := [(0, .ref t_o), (1, z_i (v1_1 + 1))]) [1, 0] rfl ?_
            exact ih1 (v1_1 + 1) o_t_beside_2 o_t_besideBits_2 c26 h_o_t_beside_2 hm
          clear hm
          have L2 : ∀ (n2 : Nat) (v2_2 : Int) (t_beside_2 : (Int → Int)) (t_besideBits_2 : (Int → Int64)), z_n v2_2 → z_r t_beside_2 → m_X0_link_l2 N t_columns v1_1 t_rows t_cells t_kind n2 v2_2 t_beside_2 t_besideBits_2 = some (o_t_beside_2, o_t_besideBits_2) → z_J X 0 0 ([(t_o, z_o 0 [z_i t_rows, z_i t_columns, z_i t_cells, .ref t_Akind, .ref t_Abeside, .ref t_AbesideBits]), (t_Akind, z_a G.2.1 36 t_kind), (t_Abeside, z_a G.2.1 144 t_beside_2), (t_AbesideBits, z_l G.2.2.1 36 t_besideBits_2)]) [(0, .ref t_o), (1, z_i v1_1), (2, z_i v2_2)] 26 [] := by
            clear hl
            intro n2
            induction n2 with
            | zero =>
              intro v2_2 t_beside_2 t_besideBits_2 h_v2_2 h_t_beside_2 hm
              rw [m_X0_link_l2] at hm
              cases hm
            | succ n2 ih2 =>
              intro v2_2 t_beside_2 t_besideBits_2 h_v2_2 h_t_beside_2 hm
              rw [m_X0_link_l2] at hm
              refine z_iload_n C dX0_link_26 2 rfl ?_
              refine z_aload_n C dX0_link_27 0 rfl ?_
              refine z_get C zf_X0_15 dX0_link_28 0 rfl rfl ?_
              refine z_icmp_ge (tgt := 95) C h_v2_2 h_t_columns dX0_link_31 (by decide) (fun c5 => ?_) (fun c5 => ?_)
              · have hm := z_pos c5 hm
                refine z_sub (L' := [(0, .ref t_o), (1, z_i v1_1)]) [0, 1] rfl ?_
                cases hm
                exact JX2 h_t_beside_2
              · have hm := z_neg c5 hm
                refine z_iload_n C dX0_link_34 2 rfl ?_
                refine z_bipush C dX0_link_35 (by decide) ?_
                refine z_icmp_ge (tgt := 95) C h_v2_2 (z_k 6 rfl) dX0_link_37 (by decide) (fun c6 => ?_) (fun c6 => ?_)
                · have hm := z_pos c6 hm
                  refine z_sub (L' := [(0, .ref t_o), (1, z_i v1_1)]) [0, 1] rfl ?_
                  cases hm
                  exact JX2 h_t_beside_2
                · have hm := z_neg c6 hm
                  refine z_iload_n C dX0_link_40 1 rfl ?_
                  refine z_aload_n C dX0_link_41 0 rfl ?_
                  refine z_get C zf_X0_15 dX0_link_42 0 rfl rfl ?_
                  obtain ⟨c7, hm⟩ := z_chk_some hm
                  refine z_imul C dX0_link_45 ?_
                  refine z_iload_n C dX0_link_46 2 rfl ?_
                  obtain ⟨c8, hm⟩ := z_chk_some hm
                  refine z_iadd C dX0_link_47 ?_
                  refine z_istore_n C dX0_link_48 (by decide) (L' := [(3, z_i ((v1_1 * t_columns) + v2_2)), (0, .ref t_o), (1, z_i v1_1), (2, z_i v2_2)]) rfl ?_
                  refine z_aload_n C dX0_link_49 1 rfl ?_
                  refine z_iload_n C dX0_link_50 0 rfl ?_
                  refine z_iconst C dX0_link_51 ?_
                  refine z_iload_n C dX0_link_52 2 rfl ?_
                  refine z_iconst C dX0_link_53 ?_
                  obtain ⟨c9, hm⟩ := z_chk_some hm
                  refine z_isub C dX0_link_54 ?_
                  refine z_iload_n C dX0_link_55 3 rfl ?_
                  obtain ⟨t_beside_10, t_besideBits_11, k12, hm⟩ := z_b2s hm
                  refine z_callVv C (k_X0_linkSide l G N t_o t_Akind t_Abeside t_AbesideBits t_rows t_columns t_cells t_kind t_beside_2 t_besideBits_2 ((v1_1 * t_columns) + v2_2) 0 (v1_1 - 1) v2_2 h_t_rows h_t_columns h_t_cells h_t_kind h_t_beside_2 c8 (z_k 0 rfl) c9 h_v2_2 t_beside_10 t_besideBits_11 k12) zv_X0_linkSide zl_X0_62 dX0_link_56 [0, 1, 2, 3] rfl rfl rfl (ws' := [(t_o, z_o 0 [z_i t_rows, z_i t_columns, z_i t_cells, .ref t_Akind, .ref t_Abeside, .ref t_AbesideBits]), (t_Akind, z_a G.2.1 36 t_kind), (t_Abeside, z_a G.2.1 144 t_beside_10), (t_AbesideBits, z_l G.2.2.1 36 t_besideBits_11)]) rfl 0 rfl rfl rfl [] rfl (Nat.le_of_ble_eq_true rfl) ⟨Nat.le_of_ble_eq_true rfl, Nat.le_of_ble_eq_true rfl⟩ ⟨rfl, rfl⟩ ⟨Nat.zero_le _, Nat.zero_le _⟩ (fun hF => ?_)
                  obtain ⟨h_t_beside_10, -⟩ := hF
                  refine z_aload_n C dX0_link_59 1 rfl ?_
                  refine z_iload_n C dX0_link_60 0 rfl ?_
                  refine z_iconst C dX0_link_61 ?_
                  refine z_iload_n C dX0_link_62 2 rfl ?_
                  refine z_iconst C dX0_link_63 ?_
                  obtain ⟨c13, hm⟩ := z_chk_some hm
                  refine z_iadd C dX0_link_64 ?_
                  refine z_iload_n C dX0_link_65 3 rfl ?_
                  obtain ⟨t_beside_14, t_besideBits_15, k16, hm⟩ := z_b2s hm
                  refine z_callVv C (k_X0_linkSide l G N t_o t_Akind t_Abeside t_AbesideBits t_rows t_columns t_cells t_kind t_beside_10 t_besideBits_11 ((v1_1 * t_columns) + v2_2) 1 (v1_1 + 1) v2_2 h_t_rows h_t_columns h_t_cells h_t_kind h_t_beside_10 c8 (z_k 1 rfl) c13 h_v2_2 t_beside_14 t_besideBits_15 k16) zv_X0_linkSide zl_X0_62 dX0_link_66 [0, 1, 2, 3] rfl rfl rfl (ws' := [(t_o, z_o 0 [z_i t_rows, z_i t_columns, z_i t_cells, .ref t_Akind, .ref t_Abeside, .ref t_AbesideBits]), (t_Akind, z_a G.2.1 36 t_kind), (t_Abeside, z_a G.2.1 144 t_beside_14), (t_AbesideBits, z_l G.2.2.1 36 t_besideBits_15)]) rfl 0 rfl rfl rfl [] rfl (Nat.le_of_ble_eq_true rfl) ⟨Nat.le_of_ble_eq_true rfl, Nat.le_of_ble_eq_true rfl⟩ ⟨rfl, rfl⟩ ⟨Nat.zero_le _, Nat.zero_le _⟩ (fun hF => ?_)
                  obtain ⟨h_t_beside_14, -⟩ := hF
                  refine z_aload_n C dX0_link_69 1 rfl ?_
                  refine z_iload_n C dX0_link_70 0 rfl ?_
                  refine z_iconst C dX0_link_71 ?_
                  refine z_iload_n C dX0_link_72 2 rfl ?_
                  refine z_iload_n C dX0_link_73 3 rfl ?_
                  refine z_iconst C dX0_link_74 ?_
                  obtain ⟨c17, hm⟩ := z_chk_some hm
                  refine z_iadd C dX0_link_75 ?_
                  obtain ⟨t_beside_18, t_besideBits_19, k20, hm⟩ := z_b2s hm
                  refine z_callVv C (k_X0_linkSide l G N t_o t_Akind t_Abeside t_AbesideBits t_rows t_columns t_cells t_kind t_beside_14 t_besideBits_15 ((v1_1 * t_columns) + v2_2) 2 v1_1 (v2_2 + 1) h_t_rows h_t_columns h_t_cells h_t_kind h_t_beside_14 c8 (z_k 2 rfl) h_v1_1 c17 t_beside_18 t_besideBits_19 k20) zv_X0_linkSide zl_X0_62 dX0_link_76 [0, 1, 2, 3] rfl rfl rfl (ws' := [(t_o, z_o 0 [z_i t_rows, z_i t_columns, z_i t_cells, .ref t_Akind, .ref t_Abeside, .ref t_AbesideBits]), (t_Akind, z_a G.2.1 36 t_kind), (t_Abeside, z_a G.2.1 144 t_beside_18), (t_AbesideBits, z_l G.2.2.1 36 t_besideBits_19)]) rfl 0 rfl rfl rfl [] rfl (Nat.le_of_ble_eq_true rfl) ⟨Nat.le_of_ble_eq_true rfl, Nat.le_of_ble_eq_true rfl⟩ ⟨rfl, rfl⟩ ⟨Nat.zero_le _, Nat.zero_le _⟩ (fun hF => ?_)
                  obtain ⟨h_t_beside_18, -⟩ := hF
                  refine z_aload_n C dX0_link_79 1 rfl ?_
                  refine z_iload_n C dX0_link_80 0 rfl ?_
                  refine z_iconst C dX0_link_81 ?_
                  refine z_iload_n C dX0_link_82 2 rfl ?_
                  refine z_iload_n C dX0_link_83 3 rfl ?_
                  refine z_iconst C dX0_link_84 ?_
                  obtain ⟨c21, hm⟩ := z_chk_some hm
                  refine z_isub C dX0_link_85 ?_
                  obtain ⟨t_beside_22, t_besideBits_23, k24, hm⟩ := z_b2s hm
                  refine z_callVv C (k_X0_linkSide l G N t_o t_Akind t_Abeside t_AbesideBits t_rows t_columns t_cells t_kind t_beside_18 t_besideBits_19 ((v1_1 * t_columns) + v2_2) 3 v1_1 (v2_2 - 1) h_t_rows h_t_columns h_t_cells h_t_kind h_t_beside_18 c8 (z_k 3 rfl) h_v1_1 c21 t_beside_22 t_besideBits_23 k24) zv_X0_linkSide zl_X0_62 dX0_link_86 [0, 1, 2, 3] rfl rfl rfl (ws' := [(t_o, z_o 0 [z_i t_rows, z_i t_columns, z_i t_cells, .ref t_Akind, .ref t_Abeside, .ref t_AbesideBits]), (t_Akind, z_a G.2.1 36 t_kind), (t_Abeside, z_a G.2.1 144 t_beside_22), (t_AbesideBits, z_l G.2.2.1 36 t_besideBits_23)]) rfl 0 rfl rfl rfl [] rfl (Nat.le_of_ble_eq_true rfl) ⟨Nat.le_of_ble_eq_true rfl, Nat.le_of_ble_eq_true rfl⟩ ⟨rfl, rfl⟩ ⟨Nat.zero_le _, Nat.zero_le _⟩ (fun hF => ?_)
                  obtain ⟨h_t_beside_22, -⟩ := hF
                  obtain ⟨c25, hm⟩ := z_chk_some hm
                  refine z_iinc C dX0_link_89 3 rfl (by decide) (L' := [(2, z_i (v2_2 + 1)), (3, z_i ((v1_1 * t_columns) + v2_2)), (0, .ref t_o), (1, z_i v1_1)]) rfl ?_
                  refine z_goto (tgt := 26) C dX0_link_92 (by decide) ?_
                  refine z_sub (L' := [(0, .ref t_o), (1, z_i v1_1), (2, z_i (v2_2 + 1))]) [2, 3, 0] rfl ?_
                  exact ih2 (v2_2 + 1) t_beside_22 t_besideBits_23 c25 h_t_beside_22 hm
          refine z_sub (L' := [(0, .ref t_o), (1, z_i v1_1), (2, z_i 0)]) [1, 2, 0] rfl ?_
          exact L2 N 0 t_beside_1 t_besideBits_1 (z_k 0 rfl) h_t_beside_1 hl
  refine z_sub (L' := [(0, .ref t_o), (1, z_i 0)]) [1, 0] rfl ?_
  exact L1 N 0 t_beside t_besideBits_1 (z_k 0 rfl) h_t_beside hl
set_option maxRecDepth 100000 in
theorem k_X0_takesRain (l : Launch) (G : z_G) (N : Nat) (t_o t_Akind t_Abeside t_AbesideBits : Nat) (t_rows : Int) (t_columns : Int) (t_cells : Int) (t_kind : (Int → Int)) (t_beside : (Int → Int)) (t_besideBits : (Int → Int64)) (x1 : Int) (h_t_rows : z_n t_rows) (h_t_columns : z_n t_columns) (h_t_cells : z_n t_cells) (h_t_kind : z_r t_kind) (h_t_beside : z_r t_beside) (h_x1 : z_n x1) (rr : Int) (hm : m_X0_takesRain N t_cells t_kind x1 = some (rr)) : z_M l G yX0_takesRain cX0_takesRain 2 (some .boolean) (k2_rm 1 21) [.ref t_o, z_i x1] ([(t_o, z_o 0 [z_i t_rows, z_i t_columns, z_i t_cells, .ref t_Akind, .ref t_Abeside, .ref t_AbesideBits]), (t_Akind, z_a G.2.1 36 t_kind), (t_Abeside, z_a G.2.1 144 t_beside), (t_AbesideBits, z_l G.2.2.1 36 t_besideBits)]) 0 0 (fun v w => v = some (z_i rr) ∧ w = [(t_o, z_o 0 [z_i t_rows, z_i t_columns, z_i t_cells, .ref t_Akind, .ref t_Abeside, .ref t_AbesideBits]), (t_Akind, z_a G.2.1 36 t_kind), (t_Abeside, z_a G.2.1 144 t_beside), (t_AbesideBits, z_l G.2.2.1 36 t_besideBits)] ∧ (rr = 0 ∨ rr = 1) ∧ True) := by
  unfold m_X0_takesRain at hm
  refine z_M.intro (by decide +kernel) (Nat.le_of_ble_eq_true rfl) (L := [(0, .ref t_o), (1, z_i x1)]) rfl (fun X C E => ?_)
  refine z_aload_n C dX0_takesRain_0 0 rfl ?_
  refine z_iload_n C dX0_takesRain_1 1 rfl ?_
  obtain ⟨r1, k2, hm⟩ := z_b1s hm
  refine z_callVi C (k_X0_holds l G N t_o t_Akind t_Abeside t_AbesideBits t_rows t_columns t_cells t_kind t_beside t_besideBits x1 h_t_rows h_t_columns h_t_cells h_t_kind h_t_beside h_x1 r1 k2) zv_X0_holds zl_X0_46 dX0_takesRain_2 [0, 1, 2, 3] rfl rfl rfl (ws' := [(t_o, z_o 0 [z_i t_rows, z_i t_columns, z_i t_cells, .ref t_Akind, .ref t_Abeside, .ref t_AbesideBits]), (t_Akind, z_a G.2.1 36 t_kind), (t_Abeside, z_a G.2.1 144 t_beside), (t_AbesideBits, z_l G.2.2.1 36 t_besideBits)]) rfl 0 rfl rfl rfl [] rfl (Nat.le_of_ble_eq_true rfl) ⟨Nat.le_of_ble_eq_true rfl, Nat.le_of_ble_eq_true rfl⟩ ⟨rfl, rfl⟩ ⟨Nat.zero_le _, Nat.zero_le _⟩ (fun hF => ?_)
  obtain ⟨hb_r1, -⟩ := hF
  refine z_if_eq (tgt := 32) C (z_n01 hb_r1) dX0_takesRain_5 (by decide) (fun c3 => ?_) (fun c3 => ?_)
  · have hm := z_pos c3 hm
    refine z_iconst C dX0_takesRain_32 ?_
    cases hm
    exact z_zret C E (Or.inl rfl) dX0_takesRain_33 ⟨rfl, rfl, (Or.inl rfl), trivial⟩
  · have hm := z_neg c3 hm
    refine z_aload_n C dX0_takesRain_8 0 rfl ?_
    refine z_get C zf_X0_21 dX0_takesRain_9 0 rfl rfl ?_
    refine z_iload_n C dX0_takesRain_12 1 rfl ?_
    obtain ⟨c4, hm⟩ := z_chk_some hm
    refine z_iald C dX0_takesRain_13 1 rfl c4 h_x1 ?_
    refine z_iconst C dX0_takesRain_14 ?_
    refine z_icmp_eq (tgt := 32) C (h_t_kind _) (z_k 3 rfl) dX0_takesRain_15 (by decide) (fun c5 => ?_) (fun c5 => ?_)
    · have hm := z_pos c5 hm
      refine z_iconst C dX0_takesRain_32 ?_
      cases hm
      exact z_zret C E (Or.inl rfl) dX0_takesRain_33 ⟨rfl, rfl, (Or.inl rfl), trivial⟩
    · have hm := z_neg c5 hm
      refine z_aload_n C dX0_takesRain_18 0 rfl ?_
      refine z_get C zf_X0_21 dX0_takesRain_19 0 rfl rfl ?_
      refine z_iload_n C dX0_takesRain_22 1 rfl ?_
      obtain ⟨c6, hm⟩ := z_chk_some hm
      refine z_iald C dX0_takesRain_23 1 rfl c6 h_x1 ?_
      refine z_iconst C dX0_takesRain_24 ?_
      refine z_icmp_eq (tgt := 32) C (h_t_kind _) (z_k 2 rfl) dX0_takesRain_25 (by decide) (fun c7 => ?_) (fun c7 => ?_)
      · have hm := z_pos c7 hm
        refine z_iconst C dX0_takesRain_32 ?_
        cases hm
        exact z_zret C E (Or.inl rfl) dX0_takesRain_33 ⟨rfl, rfl, (Or.inl rfl), trivial⟩
      · have hm := z_neg c7 hm
        refine z_iconst C dX0_takesRain_28 ?_
        refine z_goto (tgt := 33) C dX0_takesRain_29 (by decide) ?_
        cases hm
        exact z_zret C E (Or.inr rfl) dX0_takesRain_33 ⟨rfl, rfl, (Or.inr rfl), trivial⟩
set_option maxRecDepth 100000 in
theorem k_X3_finish (l : Launch) (G : z_G) (N : Nat) (g_o g_Akind g_Abeside g_AbesideBits w_o w_Aheight w_Adrops : Nat) (g_rows : Int) (g_columns : Int) (g_cells : Int) (g_kind : (Int → Int)) (g_beside : (Int → Int)) (g_besideBits : (Int → Int64)) (w_height : (Int → Int)) (w_drops : (Int → Int)) (w_hours : Int) (w_restless : Int64) (h_g_rows : z_n g_rows) (h_g_columns : z_n g_columns) (h_g_cells : z_n g_cells) (h_g_kind : z_r g_kind) (h_g_beside : z_r g_beside) (h_w_height : z_r w_height) (h_w_drops : z_r w_drops) (h_w_hours : z_n w_hours) (q_g_beside : (Int → Int)) (q_g_besideBits : (Int → Int64)) (q_w_drops : (Int → Int)) (hm : m_X3_finish N g_rows g_columns g_cells g_kind g_beside g_besideBits w_drops = some (q_g_beside, q_g_besideBits, q_w_drops)) : z_M l G yX3_finish cX3_finish 3 none (k2_rm 4 92) [.ref g_o, .ref w_o] ([(g_o, z_o 0 [z_i g_rows, z_i g_columns, z_i g_cells, .ref g_Akind, .ref g_Abeside, .ref g_AbesideBits]), (g_Akind, z_a G.2.1 36 g_kind), (g_Abeside, z_a G.2.1 144 g_beside), (g_AbesideBits, z_l G.2.2.1 36 g_besideBits), (w_o, z_o 4 [.ref w_Aheight, .ref w_Adrops, z_i w_hours, .long w_restless]), (w_Aheight, z_a G.2.1 36 w_height), (w_Adrops, z_a G.2.1 36 w_drops)]) 0 0 (fun v w => v = none ∧ w = [(g_o, z_o 0 [z_i g_rows, z_i g_columns, z_i g_cells, .ref g_Akind, .ref g_Abeside, .ref g_AbesideBits]), (g_Akind, z_a G.2.1 36 g_kind), (g_Abeside, z_a G.2.1 144 q_g_beside), (g_AbesideBits, z_l G.2.2.1 36 q_g_besideBits), (w_o, z_o 4 [.ref w_Aheight, .ref w_Adrops, z_i w_hours, .long w_restless]), (w_Aheight, z_a G.2.1 36 w_height), (w_Adrops, z_a G.2.1 36 q_w_drops)] ∧ z_r q_g_beside ∧ z_r q_w_drops ∧ True) := by
  unfold m_X3_finish at hm
  refine z_M.intro (by decide +kernel) (Nat.le_of_ble_eq_true rfl) (L := [(0, .ref g_o), (1, .ref w_o)]) rfl (fun X C E => ?_)
  refine z_aload_n C dX3_finish_0 0 rfl ?_
  obtain ⟨g_beside_1, g_besideBits_2, k3, hm⟩ := z_b2s hm
  refine z_callVv C (k_X0_link l G N g_o g_Akind g_Abeside g_AbesideBits g_rows g_columns g_cells g_kind g_beside g_besideBits h_g_rows h_g_columns h_g_cells h_g_kind h_g_beside g_beside_1 g_besideBits_2 k3) zv_X0_link zl_X3_72 dX3_finish_1 [0, 1, 2, 3] rfl rfl rfl (ws' := [(g_o, z_o 0 [z_i g_rows, z_i g_columns, z_i g_cells, .ref g_Akind, .ref g_Abeside, .ref g_AbesideBits]), (g_Akind, z_a G.2.1 36 g_kind), (g_Abeside, z_a G.2.1 144 g_beside_1), (g_AbesideBits, z_l G.2.2.1 36 g_besideBits_2), (w_o, z_o 4 [.ref w_Aheight, .ref w_Adrops, z_i w_hours, .long w_restless]), (w_Aheight, z_a G.2.1 36 w_height), (w_Adrops, z_a G.2.1 36 w_drops)]) rfl 0 rfl rfl rfl [] rfl (Nat.le_of_ble_eq_true rfl) ⟨Nat.le_of_ble_eq_true rfl, Nat.le_of_ble_eq_true rfl⟩ ⟨rfl, rfl⟩ ⟨Nat.zero_le _, Nat.zero_le _⟩ (fun hF => ?_)
  obtain ⟨h_g_beside_1, -⟩ := hF
  refine z_iconst C dX3_finish_4 ?_
  refine z_istore_n C dX3_finish_5 (by decide) (L' := [(2, z_i 0), (0, .ref g_o), (1, .ref w_o)]) rfl ?_
  obtain ⟨o_w_drops_1, hl, hm⟩ := z_b1s hm
  have JX1 : z_r o_w_drops_1 → z_J X 0 0 ([(g_o, z_o 0 [z_i g_rows, z_i g_columns, z_i g_cells, .ref g_Akind, .ref g_Abeside, .ref g_AbesideBits]), (g_Akind, z_a G.2.1 36 g_kind), (g_Abeside, z_a G.2.1 144 g_beside_1), (g_AbesideBits, z_l G.2.2.1 36 g_besideBits_2), (w_o, z_o 4 [.ref w_Aheight, .ref w_Adrops, z_i w_hours, .long w_restless]), (w_Aheight, z_a G.2.1 36 w_height), (w_Adrops, z_a G.2.1 36 o_w_drops_1)]) [] 41 [] := by
    intro h_o_w_drops_1
    clear hl
    cases hm
    exact z_vret C E dX3_finish_41 ⟨rfl, rfl, h_g_beside_1, h_o_w_drops_1, trivial⟩
  clear hm
  have L1 : ∀ (n1 : Nat) (v2_1 : Int) (w_drops_1 : (Int → Int)), z_n v2_1 → z_r w_drops_1 → m_X3_finish_l1 N g_cells g_kind n1 v2_1 w_drops_1 = some (o_w_drops_1) → z_J X 0 0 ([(g_o, z_o 0 [z_i g_rows, z_i g_columns, z_i g_cells, .ref g_Akind, .ref g_Abeside, .ref g_AbesideBits]), (g_Akind, z_a G.2.1 36 g_kind), (g_Abeside, z_a G.2.1 144 g_beside_1), (g_AbesideBits, z_l G.2.2.1 36 g_besideBits_2), (w_o, z_o 4 [.ref w_Aheight, .ref w_Adrops, z_i w_hours, .long w_restless]), (w_Aheight, z_a G.2.1 36 w_height), (w_Adrops, z_a G.2.1 36 w_drops_1)]) [(0, .ref g_o), (1, .ref w_o), (2, z_i v2_1)] 6 [] := by
    clear hl
    intro n1
    induction n1 with
    | zero =>
      intro v2_1 w_drops_1 h_v2_1 h_w_drops_1 hm
      rw [m_X3_finish_l1] at hm
      cases hm
    | succ n1 ih1 =>
      intro v2_1 w_drops_1 h_v2_1 h_w_drops_1 hm
      rw [m_X3_finish_l1] at hm
      refine z_iload_n C dX3_finish_6 2 rfl ?_
      refine z_aload_n C dX3_finish_7 0 rfl ?_
      refine z_get C zf_X3_75 dX3_finish_8 0 rfl rfl ?_
      refine z_icmp_ge (tgt := 41) C h_v2_1 h_g_cells dX3_finish_11 (by decide) (fun c4 => ?_) (fun c4 => ?_)
      · have hm := z_pos c4 hm
        refine z_sub (L' := []) [] rfl ?_
        cases hm
        exact JX1 h_w_drops_1
      · have hm := z_neg c4 hm
        refine z_iload_n C dX3_finish_14 2 rfl ?_
        refine z_bipush C dX3_finish_15 (by decide) ?_
        refine z_icmp_ge (tgt := 41) C h_v2_1 (z_k 36 rfl) dX3_finish_17 (by decide) (fun c5 => ?_) (fun c5 => ?_)
        · have hm := z_pos c5 hm
          refine z_sub (L' := []) [] rfl ?_
          cases hm
          exact JX1 h_w_drops_1
        · have hm := z_neg c5 hm
          refine z_aload_n C dX3_finish_20 0 rfl ?_
          refine z_iload_n C dX3_finish_21 2 rfl ?_
          obtain ⟨r6, k7, hm⟩ := z_b1s hm
          refine z_callVi C (k_X0_takesRain l G N g_o g_Akind g_Abeside g_AbesideBits g_rows g_columns g_cells g_kind g_beside_1 g_besideBits_2 v2_1 h_g_rows h_g_columns h_g_cells h_g_kind h_g_beside_1 h_v2_1 r6 k7) zv_X0_takesRain zl_X3_78 dX3_finish_22 [0, 1, 2, 3] rfl rfl rfl (ws' := [(g_o, z_o 0 [z_i g_rows, z_i g_columns, z_i g_cells, .ref g_Akind, .ref g_Abeside, .ref g_AbesideBits]), (g_Akind, z_a G.2.1 36 g_kind), (g_Abeside, z_a G.2.1 144 g_beside_1), (g_AbesideBits, z_l G.2.2.1 36 g_besideBits_2), (w_o, z_o 4 [.ref w_Aheight, .ref w_Adrops, z_i w_hours, .long w_restless]), (w_Aheight, z_a G.2.1 36 w_height), (w_Adrops, z_a G.2.1 36 w_drops_1)]) rfl 0 rfl rfl rfl [] rfl (Nat.le_of_ble_eq_true rfl) ⟨Nat.le_of_ble_eq_true rfl, Nat.le_of_ble_eq_true rfl⟩ ⟨rfl, rfl⟩ ⟨Nat.zero_le _, Nat.zero_le _⟩ (fun hF => ?_)
          obtain ⟨hb_r6, -⟩ := hF
          refine z_if_ne (tgt := 35) C (z_n01 hb_r6) dX3_finish_25 (by decide) (fun c8 => ?_) (fun c8 => ?_)
          · have hm := z_pos c8 hm
            obtain ⟨c9, hm⟩ := z_chk_some hm
            refine z_iinc C dX3_finish_35 2 rfl (by decide) (L' := [(2, z_i (v2_1 + 1)), (0, .ref g_o), (1, .ref w_o)]) rfl ?_
            refine z_goto (tgt := 6) C dX3_finish_38 (by decide) ?_
            refine z_sub (L' := [(0, .ref g_o), (1, .ref w_o), (2, z_i (v2_1 + 1))]) [1, 2, 0] rfl ?_
            exact ih1 (v2_1 + 1) w_drops_1 c9 h_w_drops_1 hm
          · have hm := z_neg c8 hm
            refine z_aload_n C dX3_finish_28 1 rfl ?_
            refine z_get C zf_X3_69 dX3_finish_29 4 rfl rfl ?_
            refine z_iload_n C dX3_finish_32 2 rfl ?_
            refine z_iconst C dX3_finish_33 ?_
            obtain ⟨c10, hm⟩ := z_chk_some hm
            refine z_iast C dX3_finish_34 6 rfl c10 h_v2_1 (ws' := [(g_o, z_o 0 [z_i g_rows, z_i g_columns, z_i g_cells, .ref g_Akind, .ref g_Abeside, .ref g_AbesideBits]), (g_Akind, z_a G.2.1 36 g_kind), (g_Abeside, z_a G.2.1 144 g_beside_1), (g_AbesideBits, z_l G.2.2.1 36 g_besideBits_2), (w_o, z_o 4 [.ref w_Aheight, .ref w_Adrops, z_i w_hours, .long w_restless]), (w_Aheight, z_a G.2.1 36 w_height), (w_Adrops, z_a G.2.1 36 (z_up w_drops_1 v2_1 0))]) rfl ?_
            obtain ⟨c11, hm⟩ := z_chk_some hm
            refine z_iinc C dX3_finish_35 2 rfl (by decide) (L' := [(2, z_i (v2_1 + 1)), (0, .ref g_o), (1, .ref w_o)]) rfl ?_
            refine z_goto (tgt := 6) C dX3_finish_38 (by decide) ?_
            refine z_sub (L' := [(0, .ref g_o), (1, .ref w_o), (2, z_i (v2_1 + 1))]) [1, 2, 0] rfl ?_
            exact ih1 (v2_1 + 1) (z_up w_drops_1 v2_1 0) c11 (z_r_up h_w_drops_1 (z_k 0 rfl)) hm
  refine z_sub (L' := [(0, .ref g_o), (1, .ref w_o), (2, z_i 0)]) [1, 2, 0] rfl ?_
  exact L1 N 0 w_drops (z_k 0 rfl) h_w_drops hl
