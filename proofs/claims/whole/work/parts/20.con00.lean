set_option maxRecDepth 100000 in
theorem k_X3_add (l : Launch) (G : z_G) (N : Nat) (t_o t_Aletters : Nat) (t_letters : (Int → Int)) (t_length : Int) (t_at : Int) (x1 : Int) (h_t_letters : z_r t_letters) (h_t_length : z_n t_length) (h_t_at : z_n t_at) (h_x1 : z_n x1) (q_t_letters : (Int → Int)) (q_t_length : Int) (hm : m_X3_add N t_letters t_length x1 = some (q_t_letters, q_t_length)) : z_M l G yX3_add cX3_add 2 none (k2_rm 0 0) [.ref t_o, z_i x1] ([(t_o, z_o 3 [.ref t_Aletters, z_i t_length, z_i t_at]), (t_Aletters, z_a G.2.2.2.1 200 t_letters)]) 0 0 (fun v w => v = none ∧ w = [(t_o, z_o 3 [.ref t_Aletters, z_i q_t_length, z_i t_at]), (t_Aletters, z_a G.2.2.2.1 200 q_t_letters)] ∧ z_r q_t_letters ∧ z_n q_t_length ∧ True) := by
  unfold m_X3_add at hm
  refine z_M.intro (by decide +kernel) (Nat.le_of_ble_eq_true rfl) (L := [(0, .ref t_o), (1, z_i x1)]) rfl (fun X C E => ?_)
  refine z_aload_n C dX3_add_0 0 rfl ?_
  refine z_get C zf_X3_15 dX3_add_1 0 rfl rfl ?_
  refine z_if_lt (tgt := 37) C h_t_length dX3_add_4 (by decide) (fun c1 => ?_) (fun c1 => ?_)
  · have hm := z_pos c1 hm
    cases hm
    exact z_vret C E dX3_add_37 ⟨rfl, rfl, h_t_letters, h_t_length, trivial⟩
  · have hm := z_neg c1 hm
    refine z_aload_n C dX3_add_7 0 rfl ?_
    refine z_get C zf_X3_15 dX3_add_8 0 rfl rfl ?_
    refine z_sipush C dX3_add_11 (by decide) ?_
    refine z_icmp_ge (tgt := 37) C h_t_length (z_k 200 rfl) dX3_add_14 (by decide) (fun c2 => ?_) (fun c2 => ?_)
    · have hm := z_pos c2 hm
      cases hm
      exact z_vret C E dX3_add_37 ⟨rfl, rfl, h_t_letters, h_t_length, trivial⟩
    · have hm := z_neg c2 hm
      refine z_aload_n C dX3_add_17 0 rfl ?_
      refine z_get C zf_X3_9 dX3_add_18 0 rfl rfl ?_
      refine z_aload_n C dX3_add_21 0 rfl ?_
      refine z_get C zf_X3_15 dX3_add_22 0 rfl rfl ?_
      refine z_iload_n C dX3_add_25 1 rfl ?_
      obtain ⟨c3, hm⟩ := z_chk_some hm
      obtain ⟨c4, hm⟩ := z_chk_some hm
      refine z_cast C dX3_add_26 1 rfl c3 h_t_length c4 (ws' := [(t_o, z_o 3 [.ref t_Aletters, z_i t_length, z_i t_at]), (t_Aletters, z_a G.2.2.2.1 200 (z_up t_letters t_length x1))]) rfl ?_
      refine z_aload_n C dX3_add_27 0 rfl ?_
      refine z_dup C rfl dX3_add_28 ?_
      refine z_get C zf_X3_15 dX3_add_29 0 rfl rfl ?_
      refine z_iconst C dX3_add_32 ?_
      obtain ⟨c5, hm⟩ := z_chk_some hm
      refine z_iadd C dX3_add_33 ?_
      refine z_puti C zf_X3_15 dX3_add_34 0 rfl rfl (ws' := [(t_o, z_o 3 [.ref t_Aletters, z_i (t_length + 1), z_i t_at]), (t_Aletters, z_a G.2.2.2.1 200 (z_up t_letters t_length x1))]) rfl ?_
      cases hm
      exact z_vret C E dX3_add_37 ⟨rfl, rfl, (z_r_up h_t_letters h_x1), c5, trivial⟩
set_option maxRecDepth 100000 in
theorem k_X5_isFrom (l : Launch) (G : z_G) (N : Nat) (x0 : Int) (x1 : Int) (x2 : Int) (h_x0 : z_n x0) (h_x1 : z_n x1) (h_x2 : z_n x2) (rr : Int) (hm : m_X5_isFrom N x0 x1 x2 = some (rr)) : z_M l G yX5_isFrom cX5_isFrom 3 (some .boolean) (k2_rm 0 0) [z_i x0, z_i x1, z_i x2] ([]) 0 0 (fun v w => v = some (z_i rr) ∧ w = [] ∧ (rr = 0 ∨ rr = 1) ∧ True) := by
  unfold m_X5_isFrom at hm
  refine z_M.intro (by decide +kernel) (Nat.le_of_ble_eq_true rfl) (L := [(0, z_i x0), (1, z_i x1), (2, z_i x2)]) rfl (fun X C E => ?_)
  refine z_iload_n C dX5_isFrom_0 0 rfl ?_
  refine z_iload_n C dX5_isFrom_1 1 rfl ?_
  refine z_icmp_lt (tgt := 14) C h_x0 h_x1 dX5_isFrom_2 (by decide) (fun c1 => ?_) (fun c1 => ?_)
  · have hm := z_pos c1 hm
    refine z_iconst C dX5_isFrom_14 ?_
    cases hm
    exact z_zret C E (Or.inl rfl) dX5_isFrom_15 ⟨rfl, rfl, (Or.inl rfl), trivial⟩
  · have hm := z_neg c1 hm
    refine z_iload_n C dX5_isFrom_5 0 rfl ?_
    refine z_iload_n C dX5_isFrom_6 2 rfl ?_
    refine z_icmp_gt (tgt := 14) C h_x0 h_x2 dX5_isFrom_7 (by decide) (fun c2 => ?_) (fun c2 => ?_)
    · have hm := z_pos c2 hm
      refine z_iconst C dX5_isFrom_14 ?_
      cases hm
      exact z_zret C E (Or.inl rfl) dX5_isFrom_15 ⟨rfl, rfl, (Or.inl rfl), trivial⟩
    · have hm := z_neg c2 hm
      refine z_iconst C dX5_isFrom_10 ?_
      refine z_goto (tgt := 15) C dX5_isFrom_11 (by decide) ?_
      cases hm
      exact z_zret C E (Or.inr rfl) dX5_isFrom_15 ⟨rfl, rfl, (Or.inr rfl), trivial⟩
set_option maxRecDepth 100000 in
theorem k_X0_shape (l : Launch) (G : z_G) (N : Nat) (t_o t_Akind t_Abeside t_AbesideBits : Nat) (t_rows : Int) (t_columns : Int) (t_cells : Int) (t_kind : (Int → Int)) (t_beside : (Int → Int)) (t_besideBits : (Int → Int64)) (x1 : Int) (x2 : Int) (h_t_rows : z_n t_rows) (h_t_columns : z_n t_columns) (h_t_cells : z_n t_cells) (h_t_kind : z_r t_kind) (h_t_beside : z_r t_beside) (h_x1 : z_n x1) (h_x2 : z_n x2) (rr : Int) (q_t_rows : Int) (q_t_columns : Int) (q_t_cells : Int) (hm : m_X0_shape N t_rows t_columns t_cells x1 x2 = some (rr, q_t_rows, q_t_columns, q_t_cells)) : z_M l G yX0_shape cX0_shape 3 (some .boolean) (k2_rm 1 22) [.ref t_o, z_i x1, z_i x2] ([(t_o, z_o 0 [z_i t_rows, z_i t_columns, z_i t_cells, .ref t_Akind, .ref t_Abeside, .ref t_AbesideBits]), (t_Akind, z_a G.2.1 36 t_kind), (t_Abeside, z_a G.2.1 144 t_beside), (t_AbesideBits, z_l G.2.2.1 36 t_besideBits)]) 0 0 (fun v w => v = some (z_i rr) ∧ w = [(t_o, z_o 0 [z_i q_t_rows, z_i q_t_columns, z_i q_t_cells, .ref t_Akind, .ref t_Abeside, .ref t_AbesideBits]), (t_Akind, z_a G.2.1 36 t_kind), (t_Abeside, z_a G.2.1 144 t_beside), (t_AbesideBits, z_l G.2.2.1 36 t_besideBits)] ∧ (rr = 0 ∨ rr = 1) ∧ z_n q_t_rows ∧ z_n q_t_columns ∧ z_n q_t_cells ∧ True) := by
  unfold m_X0_shape at hm
  refine z_M.intro (by decide +kernel) (Nat.le_of_ble_eq_true rfl) (L := [(0, .ref t_o), (1, z_i x1), (2, z_i x2)]) rfl (fun X C E => ?_)
  refine z_iload_n C dX0_shape_0 1 rfl ?_
  refine z_iconst C dX0_shape_1 ?_
  refine z_bipush C dX0_shape_2 (by decide) ?_
  obtain ⟨r1, k2, hm⟩ := z_b1s hm
  refine z_callNi C (k_X5_isFrom l G N x1 2 6 h_x1 (z_k 2 rfl) (z_k 6 rfl) r1 k2) zs_X5_isFrom zn_X0_32 dX0_shape_4 [] rfl rfl rfl (ws' := [(t_o, z_o 0 [z_i t_rows, z_i t_columns, z_i t_cells, .ref t_Akind, .ref t_Abeside, .ref t_AbesideBits]), (t_Akind, z_a G.2.1 36 t_kind), (t_Abeside, z_a G.2.1 144 t_beside), (t_AbesideBits, z_l G.2.2.1 36 t_besideBits)]) rfl rfl [] rfl (Nat.le_of_ble_eq_true rfl) ⟨Nat.le_of_ble_eq_true rfl, Nat.le_of_ble_eq_true rfl⟩ ⟨rfl, rfl⟩ ⟨Nat.zero_le _, Nat.zero_le _⟩ (fun hF => ?_)
  obtain ⟨hb_r1, -⟩ := hF
  refine z_if_eq (tgt := 20) C (z_n01 hb_r1) dX0_shape_7 (by decide) (fun c3 => ?_) (fun c3 => ?_)
  · have hm := z_pos c3 hm
    refine z_iconst C dX0_shape_20 ?_
    cases hm
    exact z_zret C E (Or.inl rfl) dX0_shape_21 ⟨rfl, rfl, (Or.inl rfl), h_t_rows, h_t_columns, h_t_cells, trivial⟩
  · have hm := z_neg c3 hm
    refine z_iload_n C dX0_shape_10 2 rfl ?_
    refine z_iconst C dX0_shape_11 ?_
    refine z_bipush C dX0_shape_12 (by decide) ?_
    obtain ⟨r4, k5, hm⟩ := z_b1s hm
    refine z_callNi C (k_X5_isFrom l G N x2 2 6 h_x2 (z_k 2 rfl) (z_k 6 rfl) r4 k5) zs_X5_isFrom zn_X0_32 dX0_shape_14 [] rfl rfl rfl (ws' := [(t_o, z_o 0 [z_i t_rows, z_i t_columns, z_i t_cells, .ref t_Akind, .ref t_Abeside, .ref t_AbesideBits]), (t_Akind, z_a G.2.1 36 t_kind), (t_Abeside, z_a G.2.1 144 t_beside), (t_AbesideBits, z_l G.2.2.1 36 t_besideBits)]) rfl rfl [] rfl (Nat.le_of_ble_eq_true rfl) ⟨Nat.le_of_ble_eq_true rfl, Nat.le_of_ble_eq_true rfl⟩ ⟨rfl, rfl⟩ ⟨Nat.zero_le _, Nat.zero_le _⟩ (fun hF => ?_)
    obtain ⟨hb_r4, -⟩ := hF
    refine z_if_ne (tgt := 22) C (z_n01 hb_r4) dX0_shape_17 (by decide) (fun c6 => ?_) (fun c6 => ?_)
    · have hm := z_pos c6 hm
      refine z_aload_n C dX0_shape_22 0 rfl ?_
      refine z_iload_n C dX0_shape_23 1 rfl ?_
      refine z_puti C zf_X0_9 dX0_shape_24 0 rfl rfl (ws' := [(t_o, z_o 0 [z_i x1, z_i t_columns, z_i t_cells, .ref t_Akind, .ref t_Abeside, .ref t_AbesideBits]), (t_Akind, z_a G.2.1 36 t_kind), (t_Abeside, z_a G.2.1 144 t_beside), (t_AbesideBits, z_l G.2.2.1 36 t_besideBits)]) rfl ?_
      refine z_aload_n C dX0_shape_27 0 rfl ?_
      refine z_iload_n C dX0_shape_28 2 rfl ?_
      refine z_puti C zf_X0_15 dX0_shape_29 0 rfl rfl (ws' := [(t_o, z_o 0 [z_i x1, z_i x2, z_i t_cells, .ref t_Akind, .ref t_Abeside, .ref t_AbesideBits]), (t_Akind, z_a G.2.1 36 t_kind), (t_Abeside, z_a G.2.1 144 t_beside), (t_AbesideBits, z_l G.2.2.1 36 t_besideBits)]) rfl ?_
      refine z_aload_n C dX0_shape_32 0 rfl ?_
      refine z_aload_n C dX0_shape_33 0 rfl ?_
      refine z_get C zf_X0_9 dX0_shape_34 0 rfl rfl ?_
      refine z_aload_n C dX0_shape_37 0 rfl ?_
      refine z_get C zf_X0_15 dX0_shape_38 0 rfl rfl ?_
      obtain ⟨c7, hm⟩ := z_chk_some hm
      refine z_imul C dX0_shape_41 ?_
      refine z_puti C zf_X0_18 dX0_shape_42 0 rfl rfl (ws' := [(t_o, z_o 0 [z_i x1, z_i x2, z_i (x1 * x2), .ref t_Akind, .ref t_Abeside, .ref t_AbesideBits]), (t_Akind, z_a G.2.1 36 t_kind), (t_Abeside, z_a G.2.1 144 t_beside), (t_AbesideBits, z_l G.2.2.1 36 t_besideBits)]) rfl ?_
      refine z_iconst C dX0_shape_45 ?_
      cases hm
      exact z_zret C E (Or.inr rfl) dX0_shape_46 ⟨rfl, rfl, (Or.inr rfl), h_x1, h_x2, c7, trivial⟩
    · have hm := z_neg c6 hm
      refine z_iconst C dX0_shape_20 ?_
      cases hm
      exact z_zret C E (Or.inl rfl) dX0_shape_21 ⟨rfl, rfl, (Or.inl rfl), h_t_rows, h_t_columns, h_t_cells, trivial⟩
set_option maxRecDepth 100000 in
theorem k_J7_fill_53178 (l : Launch) (G : z_G) (N : Nat) (a_o : Nat) (a_n : Nat) (a_f : (Int → Int)) (x1 : Int) (h_a_n : z_n (a_n : Int)) (h_a_f : z_r a_f) (h_x1 : z_n x1) (q_a_f : (Int → Int)) (hm : m_J7_fill_53178 N a_n a_f x1 = some (q_a_f)) : z_M l G yJ7_fill_53178 cJ7_fill_53178 4 none (k2_rm 0 0) [.ref a_o, z_i x1] ([(a_o, z_a G.2.1 a_n a_f)]) 0 0 (fun v w => v = none ∧ w = [(a_o, z_a G.2.1 a_n q_a_f)] ∧ z_r q_a_f ∧ True) := by
  unfold m_J7_fill_53178 at hm
  refine z_M.intro (by decide +kernel) (Nat.le_of_ble_eq_true rfl) (L := [(0, .ref a_o), (1, z_i x1)]) rfl (fun X C E => ?_)
  refine z_iconst C dJ7_fill_53178_0 ?_
  refine z_istore_n C dJ7_fill_53178_1 (by decide) (L' := [(2, z_i 0), (0, .ref a_o), (1, z_i x1)]) rfl ?_
  refine z_aload_n C dJ7_fill_53178_2 1 rfl ?_
  refine z_alen_i (x := (a_n : Int)) C dJ7_fill_53178_3 0 rfl rfl ?_
  refine z_istore_n C dJ7_fill_53178_4 (by decide) (L' := [(3, z_i (a_n : Int)), (2, z_i 0), (0, .ref a_o), (1, z_i x1)]) rfl ?_
  obtain ⟨o_a_f_1, hl, hm⟩ := z_b1s hm
  have JX1 : z_r o_a_f_1 → z_J X 0 0 ([(a_o, z_a G.2.1 a_n o_a_f_1)]) [] 20 [] := by
    intro h_o_a_f_1
    clear hl
    cases hm
    exact z_vret C E dJ7_fill_53178_20 ⟨rfl, rfl, h_o_a_f_1, trivial⟩
  clear hm
  have L1 : ∀ (n1 : Nat) (v2_1 : Int) (a_f_1 : (Int → Int)), z_n v2_1 → z_r a_f_1 → m_J7_fill_53178_l1 N (a_n : Int) a_n x1 n1 v2_1 a_f_1 = some (o_a_f_1) → z_J X 0 0 ([(a_o, z_a G.2.1 a_n a_f_1)]) [(0, .ref a_o), (1, z_i x1), (2, z_i v2_1), (3, z_i (a_n : Int))] 5 [] := by
    clear hl
    intro n1
    induction n1 with
    | zero =>
      intro v2_1 a_f_1 h_v2_1 h_a_f_1 hm
      rw [m_J7_fill_53178_l1] at hm
      cases hm
    | succ n1 ih1 =>
      intro v2_1 a_f_1 h_v2_1 h_a_f_1 hm
      rw [m_J7_fill_53178_l1] at hm
      refine z_iload_n C dJ7_fill_53178_5 2 rfl ?_
      refine z_iload_n C dJ7_fill_53178_6 3 rfl ?_
      refine z_icmp_ge (tgt := 20) C h_v2_1 h_a_n dJ7_fill_53178_7 (by decide) (fun c1 => ?_) (fun c1 => ?_)
      · have hm := z_pos c1 hm
        refine z_sub (L' := []) [] rfl ?_
        cases hm
        exact JX1 h_a_f_1
      · have hm := z_neg c1 hm
        refine z_aload_n C dJ7_fill_53178_10 0 rfl ?_
        refine z_iload_n C dJ7_fill_53178_11 2 rfl ?_
        refine z_iload_n C dJ7_fill_53178_12 1 rfl ?_
        obtain ⟨c2, hm⟩ := z_chk_some hm
        refine z_iast C dJ7_fill_53178_13 0 rfl c2 h_v2_1 (ws' := [(a_o, z_a G.2.1 a_n (z_up a_f_1 v2_1 x1))]) rfl ?_
        obtain ⟨c3, hm⟩ := z_chk_some hm
        refine z_iinc C dJ7_fill_53178_14 2 rfl (by decide) (L' := [(2, z_i (v2_1 + 1)), (0, .ref a_o), (1, z_i x1), (3, z_i (a_n : Int))]) rfl ?_
        refine z_goto (tgt := 5) C dJ7_fill_53178_17 (by decide) ?_
        refine z_sub (L' := [(0, .ref a_o), (1, z_i x1), (2, z_i (v2_1 + 1)), (3, z_i (a_n : Int))]) [1, 2, 0, 3] rfl ?_
        exact ih1 (v2_1 + 1) (z_up a_f_1 v2_1 x1) c3 (z_r_up h_a_f_1 h_x1) hm
  refine z_sub (L' := [(0, .ref a_o), (1, z_i x1), (2, z_i 0), (3, z_i (a_n : Int))]) [2, 3, 1, 0] rfl ?_
  exact L1 N 0 a_f (z_k 0 rfl) h_a_f hl
set_option maxRecDepth 100000 in
theorem k_X0_makeOpen (l : Launch) (G : z_G) (N : Nat) (t_o t_Akind t_Abeside t_AbesideBits : Nat) (t_rows : Int) (t_columns : Int) (t_cells : Int) (t_kind : (Int → Int)) (t_beside : (Int → Int)) (t_besideBits : (Int → Int64)) (h_t_rows : z_n t_rows) (h_t_columns : z_n t_columns) (h_t_cells : z_n t_cells) (h_t_kind : z_r t_kind) (h_t_beside : z_r t_beside) (q_t_rows : Int) (q_t_columns : Int) (q_t_cells : Int) (q_t_kind : (Int → Int)) (hm : m_X0_makeOpen N t_rows t_columns t_cells t_kind = some (q_t_rows, q_t_columns, q_t_cells, q_t_kind)) : z_M l G yX0_makeOpen cX0_makeOpen 1 none (k2_rm 2 44) [.ref t_o] ([(t_o, z_o 0 [z_i t_rows, z_i t_columns, z_i t_cells, .ref t_Akind, .ref t_Abeside, .ref t_AbesideBits]), (t_Akind, z_a G.2.1 36 t_kind), (t_Abeside, z_a G.2.1 144 t_beside), (t_AbesideBits, z_l G.2.2.1 36 t_besideBits)]) 0 0 (fun v w => v = none ∧ w = [(t_o, z_o 0 [z_i q_t_rows, z_i q_t_columns, z_i q_t_cells, .ref t_Akind, .ref t_Abeside, .ref t_AbesideBits]), (t_Akind, z_a G.2.1 36 q_t_kind), (t_Abeside, z_a G.2.1 144 t_beside), (t_AbesideBits, z_l G.2.2.1 36 t_besideBits)] ∧ z_n q_t_rows ∧ z_n q_t_columns ∧ z_n q_t_cells ∧ z_r q_t_kind ∧ True) := by
  unfold m_X0_makeOpen at hm
  refine z_M.intro (by decide +kernel) (Nat.le_of_ble_eq_true rfl) (L := [(0, .ref t_o)]) rfl (fun X C E => ?_)
  refine z_aload_n C dX0_makeOpen_0 0 rfl ?_
  refine z_iconst C dX0_makeOpen_1 ?_
  refine z_iconst C dX0_makeOpen_2 ?_
  obtain ⟨r1, t_rows_2, t_columns_3, t_cells_4, k5, hm⟩ := z_b4s hm
  refine z_callVi C (k_X0_shape l G N t_o t_Akind t_Abeside t_AbesideBits t_rows t_columns t_cells t_kind t_beside t_besideBits 4 5 h_t_rows h_t_columns h_t_cells h_t_kind h_t_beside (z_k 4 rfl) (z_k 5 rfl) r1 t_rows_2 t_columns_3 t_cells_4 k5) zv_X0_shape zl_X0_36 dX0_makeOpen_3 [0, 1, 2, 3] rfl rfl rfl (ws' := [(t_o, z_o 0 [z_i t_rows_2, z_i t_columns_3, z_i t_cells_4, .ref t_Akind, .ref t_Abeside, .ref t_AbesideBits]), (t_Akind, z_a G.2.1 36 t_kind), (t_Abeside, z_a G.2.1 144 t_beside), (t_AbesideBits, z_l G.2.2.1 36 t_besideBits)]) rfl 0 rfl rfl rfl [] rfl (Nat.le_of_ble_eq_true rfl) ⟨Nat.le_of_ble_eq_true rfl, Nat.le_of_ble_eq_true rfl⟩ ⟨rfl, rfl⟩ ⟨Nat.zero_le _, Nat.zero_le _⟩ (fun hF => ?_)
  obtain ⟨hb_r1, h_t_rows_2, h_t_columns_3, h_t_cells_4, -⟩ := hF
  refine z_pop C rfl dX0_makeOpen_6 ?_
  refine z_aload_n C dX0_makeOpen_7 0 rfl ?_
  refine z_get C zf_X0_21 dX0_makeOpen_8 0 rfl rfl ?_
  refine z_iconst C dX0_makeOpen_11 ?_
  obtain ⟨t_kind_6, k7, hm⟩ := z_b1s hm
  refine z_callSv C (k_J7_fill_53178 l G N t_Akind 36 t_kind 0 (z_k 36 rfl) h_t_kind (z_k 0 rfl) t_kind_6 k7) zs_J7_fill_53178 zl_X0_40 dX0_makeOpen_12 [1] rfl rfl rfl (ws' := [(t_o, z_o 0 [z_i t_rows_2, z_i t_columns_3, z_i t_cells_4, .ref t_Akind, .ref t_Abeside, .ref t_AbesideBits]), (t_Akind, z_a G.2.1 36 t_kind_6), (t_Abeside, z_a G.2.1 144 t_beside), (t_AbesideBits, z_l G.2.2.1 36 t_besideBits)]) rfl rfl [] rfl (Nat.le_of_ble_eq_true rfl) ⟨Nat.le_of_ble_eq_true rfl, Nat.le_of_ble_eq_true rfl⟩ ⟨rfl, rfl⟩ ⟨Nat.zero_le _, Nat.zero_le _⟩ (fun hF => ?_)
  obtain ⟨h_t_kind_6, -⟩ := hF
  cases hm
  exact z_vret C E dX0_makeOpen_15 ⟨rfl, rfl, h_t_rows_2, h_t_columns_3, h_t_cells_4, h_t_kind_6, trivial⟩
set_option maxRecDepth 100000 in
theorem k_X4_makeDry (l : Launch) (G : z_G) (N : Nat) (t_o t_Aheight t_Adrops : Nat) (t_height : (Int → Int)) (t_drops : (Int → Int)) (t_hours : Int) (t_restless : Int64) (h_t_height : z_r t_height) (h_t_drops : z_r t_drops) (h_t_hours : z_n t_hours) (q_t_height : (Int → Int)) (q_t_drops : (Int → Int)) (q_t_hours : Int) (hm : m_X4_makeDry N t_height t_drops t_hours = some (q_t_height, q_t_drops, q_t_hours)) : z_M l G yX4_makeDry cX4_makeDry 1 none (k2_rm 1 23) [.ref t_o] ([(t_o, z_o 4 [.ref t_Aheight, .ref t_Adrops, z_i t_hours, .long t_restless]), (t_Aheight, z_a G.2.1 36 t_height), (t_Adrops, z_a G.2.1 36 t_drops)]) 0 0 (fun v w => v = none ∧ w = [(t_o, z_o 4 [.ref t_Aheight, .ref t_Adrops, z_i q_t_hours, .long t_restless]), (t_Aheight, z_a G.2.1 36 q_t_height), (t_Adrops, z_a G.2.1 36 q_t_drops)] ∧ z_r q_t_height ∧ z_r q_t_drops ∧ z_n q_t_hours ∧ True) := by
  unfold m_X4_makeDry at hm
  refine z_M.intro (by decide +kernel) (Nat.le_of_ble_eq_true rfl) (L := [(0, .ref t_o)]) rfl (fun X C E => ?_)
  refine z_aload_n C dX4_makeDry_0 0 rfl ?_
  refine z_get C zf_X4_9 dX4_makeDry_1 0 rfl rfl ?_
  refine z_iconst C dX4_makeDry_4 ?_
  obtain ⟨t_height_1, k2, hm⟩ := z_b1s hm
  refine z_callSv C (k_J7_fill_53178 l G N t_Aheight 36 t_height 5 (z_k 36 rfl) h_t_height (z_k 5 rfl) t_height_1 k2) zs_J7_fill_53178 zl_X4_26 dX4_makeDry_5 [1] rfl rfl rfl (ws' := [(t_o, z_o 4 [.ref t_Aheight, .ref t_Adrops, z_i t_hours, .long t_restless]), (t_Aheight, z_a G.2.1 36 t_height_1), (t_Adrops, z_a G.2.1 36 t_drops)]) rfl rfl [] rfl (Nat.le_of_ble_eq_true rfl) ⟨Nat.le_of_ble_eq_true rfl, Nat.le_of_ble_eq_true rfl⟩ ⟨rfl, rfl⟩ ⟨Nat.zero_le _, Nat.zero_le _⟩ (fun hF => ?_)
  obtain ⟨h_t_height_1, -⟩ := hF
  refine z_aload_n C dX4_makeDry_8 0 rfl ?_
  refine z_get C zf_X4_15 dX4_makeDry_9 0 rfl rfl ?_
  refine z_iconst C dX4_makeDry_12 ?_
  obtain ⟨t_drops_3, k4, hm⟩ := z_b1s hm
  refine z_callSv C (k_J7_fill_53178 l G N t_Adrops 36 t_drops 0 (z_k 36 rfl) h_t_drops (z_k 0 rfl) t_drops_3 k4) zs_J7_fill_53178 zl_X4_26 dX4_makeDry_13 [2] rfl rfl rfl (ws' := [(t_o, z_o 4 [.ref t_Aheight, .ref t_Adrops, z_i t_hours, .long t_restless]), (t_Aheight, z_a G.2.1 36 t_height_1), (t_Adrops, z_a G.2.1 36 t_drops_3)]) rfl rfl [] rfl (Nat.le_of_ble_eq_true rfl) ⟨Nat.le_of_ble_eq_true rfl, Nat.le_of_ble_eq_true rfl⟩ ⟨rfl, rfl⟩ ⟨Nat.zero_le _, Nat.zero_le _⟩ (fun hF => ?_)
  obtain ⟨h_t_drops_3, -⟩ := hF
  refine z_aload_n C dX4_makeDry_16 0 rfl ?_
  refine z_iconst C dX4_makeDry_17 ?_
  refine z_puti C zf_X4_18 dX4_makeDry_18 0 rfl rfl (ws' := [(t_o, z_o 4 [.ref t_Aheight, .ref t_Adrops, z_i 0, .long t_restless]), (t_Aheight, z_a G.2.1 36 t_height_1), (t_Adrops, z_a G.2.1 36 t_drops_3)]) rfl ?_
  cases hm
  exact z_vret C E dX4_makeDry_21 ⟨rfl, rfl, h_t_height_1, h_t_drops_3, (z_k 0 rfl), trivial⟩
set_option maxRecDepth 100000 in
theorem k_X3_peek (l : Launch) (G : z_G) (N : Nat) (t_o t_Aletters : Nat) (t_letters : (Int → Int)) (t_length : Int) (t_at : Int) (h_t_letters : z_r t_letters) (h_t_length : z_n t_length) (h_t_at : z_n t_at) (rr : Int) (hm : m_X3_peek N t_letters t_length t_at = some (rr)) : z_M l G yX3_peek cX3_peek 1 (some .int) (k2_rm 0 0) [.ref t_o] ([(t_o, z_o 3 [.ref t_Aletters, z_i t_length, z_i t_at]), (t_Aletters, z_a G.2.2.2.1 200 t_letters)]) 0 0 (fun v w => v = some (z_i rr) ∧ w = [(t_o, z_o 3 [.ref t_Aletters, z_i t_length, z_i t_at]), (t_Aletters, z_a G.2.2.2.1 200 t_letters)] ∧ z_n rr ∧ True) := by
  unfold m_X3_peek at hm
  refine z_M.intro (by decide +kernel) (Nat.le_of_ble_eq_true rfl) (L := [(0, .ref t_o)]) rfl (fun X C E => ?_)
  refine z_aload_n C dX3_peek_0 0 rfl ?_
  refine z_get C zf_X3_19 dX3_peek_1 0 rfl rfl ?_
  refine z_if_lt (tgt := 40) C h_t_at dX3_peek_4 (by decide) (fun c1 => ?_) (fun c1 => ?_)
  · have hm := z_pos c1 hm
    refine z_bipush C dX3_peek_40 (by decide) ?_
    cases hm
    exact z_iret C E dX3_peek_42 ⟨rfl, rfl, (z_k (-4) rfl), trivial⟩
  · have hm := z_neg c1 hm
    refine z_aload_n C dX3_peek_7 0 rfl ?_
    refine z_get C zf_X3_19 dX3_peek_8 0 rfl rfl ?_
    refine z_aload_n C dX3_peek_11 0 rfl ?_
    refine z_get C zf_X3_15 dX3_peek_12 0 rfl rfl ?_
    refine z_icmp_ge (tgt := 40) C h_t_at h_t_length dX3_peek_15 (by decide) (fun c2 => ?_) (fun c2 => ?_)
    · have hm := z_pos c2 hm
      refine z_bipush C dX3_peek_40 (by decide) ?_
      cases hm
      exact z_iret C E dX3_peek_42 ⟨rfl, rfl, (z_k (-4) rfl), trivial⟩
    · have hm := z_neg c2 hm
      refine z_aload_n C dX3_peek_18 0 rfl ?_
      refine z_get C zf_X3_19 dX3_peek_19 0 rfl rfl ?_
      refine z_sipush C dX3_peek_22 (by decide) ?_
      refine z_icmp_ge (tgt := 40) C h_t_at (z_k 200 rfl) dX3_peek_25 (by decide) (fun c3 => ?_) (fun c3 => ?_)
      · have hm := z_pos c3 hm
        refine z_bipush C dX3_peek_40 (by decide) ?_
        cases hm
        exact z_iret C E dX3_peek_42 ⟨rfl, rfl, (z_k (-4) rfl), trivial⟩
      · have hm := z_neg c3 hm
        refine z_aload_n C dX3_peek_28 0 rfl ?_
        refine z_get C zf_X3_9 dX3_peek_29 0 rfl rfl ?_
        refine z_aload_n C dX3_peek_32 0 rfl ?_
        refine z_get C zf_X3_19 dX3_peek_33 0 rfl rfl ?_
        obtain ⟨c4, hm⟩ := z_chk_some hm
        refine z_cald C dX3_peek_36 1 rfl c4 h_t_at ?_
        refine z_goto (tgt := 42) C dX3_peek_37 (by decide) ?_
        cases hm
        exact z_iret C E dX3_peek_42 ⟨rfl, rfl, (h_t_letters _), trivial⟩
set_option maxRecDepth 100000 in
theorem k_X3_nextLetter (l : Launch) (G : z_G) (N : Nat) (t_o t_Aletters : Nat) (t_letters : (Int → Int)) (t_length : Int) (t_at : Int) (h_t_letters : z_r t_letters) (h_t_length : z_n t_length) (h_t_at : z_n t_at) (rr : Int) (q_t_at : Int) (hm : m_X3_nextLetter N t_letters t_length t_at = some (rr, q_t_at)) : z_M l G yX3_nextLetter cX3_nextLetter 2 (some .int) (k2_rm 1 20) [.ref t_o] ([(t_o, z_o 3 [.ref t_Aletters, z_i t_length, z_i t_at]), (t_Aletters, z_a G.2.2.2.1 200 t_letters)]) 0 0 (fun v w => v = some (z_i rr) ∧ w = [(t_o, z_o 3 [.ref t_Aletters, z_i t_length, z_i q_t_at]), (t_Aletters, z_a G.2.2.2.1 200 t_letters)] ∧ z_n rr ∧ z_n q_t_at ∧ True) := by
  unfold m_X3_nextLetter at hm
  refine z_M.intro (by decide +kernel) (Nat.le_of_ble_eq_true rfl) (L := [(0, .ref t_o)]) rfl (fun X C E => ?_)
  refine z_aload_n C dX3_nextLetter_0 0 rfl ?_
  obtain ⟨r1, k2, hm⟩ := z_b1s hm
  refine z_callVi C (k_X3_peek l G N t_o t_Aletters t_letters t_length t_at h_t_letters h_t_length h_t_at r1 k2) zv_X3_peek zl_X3_81 dX3_nextLetter_1 [0, 1] rfl rfl rfl (ws' := [(t_o, z_o 3 [.ref t_Aletters, z_i t_length, z_i t_at]), (t_Aletters, z_a G.2.2.2.1 200 t_letters)]) rfl 0 rfl rfl rfl [] rfl (Nat.le_of_ble_eq_true rfl) ⟨Nat.le_of_ble_eq_true rfl, Nat.le_of_ble_eq_true rfl⟩ ⟨rfl, rfl⟩ ⟨Nat.zero_le _, Nat.zero_le _⟩ (fun hF => ?_)
  obtain ⟨h_r1, -⟩ := hF
  refine z_istore_n C dX3_nextLetter_4 (by decide) (L' := [(1, z_i r1), (0, .ref t_o)]) rfl ?_
  refine z_aload_n C dX3_nextLetter_5 1 rfl ?_
  refine z_dup C rfl dX3_nextLetter_6 ?_
  refine z_get C zf_X3_19 dX3_nextLetter_7 0 rfl rfl ?_
  refine z_iconst C dX3_nextLetter_10 ?_
  obtain ⟨c3, hm⟩ := z_chk_some hm
  refine z_iadd C dX3_nextLetter_11 ?_
  refine z_puti C zf_X3_19 dX3_nextLetter_12 0 rfl rfl (ws' := [(t_o, z_o 3 [.ref t_Aletters, z_i t_length, z_i (t_at + 1)]), (t_Aletters, z_a G.2.2.2.1 200 t_letters)]) rfl ?_
  refine z_iload_n C dX3_nextLetter_15 0 rfl ?_
  cases hm
  exact z_iret C E dX3_nextLetter_16 ⟨rfl, rfl, h_r1, c3, trivial⟩
set_option maxRecDepth 100000 in
theorem k_X3_nextFigure (l : Launch) (G : z_G) (N : Nat) (t_o t_Aletters : Nat) (t_letters : (Int → Int)) (t_length : Int) (t_at : Int) (h_t_letters : z_r t_letters) (h_t_length : z_n t_length) (h_t_at : z_n t_at) (rr : Int) (q_t_at : Int) (hm : m_X3_nextFigure N t_letters t_length t_at = some (rr, q_t_at)) : z_M l G yX3_nextFigure cX3_nextFigure 2 (some .int) (k2_rm 1 22) [.ref t_o] ([(t_o, z_o 3 [.ref t_Aletters, z_i t_length, z_i t_at]), (t_Aletters, z_a G.2.2.2.1 200 t_letters)]) 0 0 (fun v w => v = some (z_i rr) ∧ w = [(t_o, z_o 3 [.ref t_Aletters, z_i t_length, z_i q_t_at]), (t_Aletters, z_a G.2.2.2.1 200 t_letters)] ∧ z_n rr ∧ z_n q_t_at ∧ True) := by
  unfold m_X3_nextFigure at hm
  refine z_M.intro (by decide +kernel) (Nat.le_of_ble_eq_true rfl) (L := [(0, .ref t_o)]) rfl (fun X C E => ?_)
  refine z_aload_n C dX3_nextFigure_0 0 rfl ?_
  obtain ⟨r1, k2, hm⟩ := z_b1s hm
  refine z_callVi C (k_X3_peek l G N t_o t_Aletters t_letters t_length t_at h_t_letters h_t_length h_t_at r1 k2) zv_X3_peek zl_X3_81 dX3_nextFigure_1 [0, 1] rfl rfl rfl (ws' := [(t_o, z_o 3 [.ref t_Aletters, z_i t_length, z_i t_at]), (t_Aletters, z_a G.2.2.2.1 200 t_letters)]) rfl 0 rfl rfl rfl [] rfl (Nat.le_of_ble_eq_true rfl) ⟨Nat.le_of_ble_eq_true rfl, Nat.le_of_ble_eq_true rfl⟩ ⟨rfl, rfl⟩ ⟨Nat.zero_le _, Nat.zero_le _⟩ (fun hF => ?_)
  obtain ⟨h_r1, -⟩ := hF
  refine z_istore_n C dX3_nextFigure_4 (by decide) (L' := [(1, z_i r1), (0, .ref t_o)]) rfl ?_
  refine z_iload_n C dX3_nextFigure_5 0 rfl ?_
  refine z_bipush C dX3_nextFigure_6 (by decide) ?_
  refine z_bipush C dX3_nextFigure_8 (by decide) ?_
  obtain ⟨r3, k4, hm⟩ := z_b1s hm
  refine z_callNi C (k_X5_isFrom l G N r1 48 57 h_r1 (z_k 48 rfl) (z_k 57 rfl) r3 k4) zs_X5_isFrom zn_X3_58 dX3_nextFigure_10 [] rfl rfl rfl (ws' := [(t_o, z_o 3 [.ref t_Aletters, z_i t_length, z_i t_at]), (t_Aletters, z_a G.2.2.2.1 200 t_letters)]) rfl rfl [] rfl (Nat.le_of_ble_eq_true rfl) ⟨Nat.le_of_ble_eq_true rfl, Nat.le_of_ble_eq_true rfl⟩ ⟨rfl, rfl⟩ ⟨Nat.zero_le _, Nat.zero_le _⟩ (fun hF => ?_)
  obtain ⟨hb_r3, -⟩ := hF
  refine z_if_ne (tgt := 19) C (z_n01 hb_r3) dX3_nextFigure_13 (by decide) (fun c5 => ?_) (fun c5 => ?_)
  · have hm := z_pos c5 hm
    refine z_aload_n C dX3_nextFigure_19 1 rfl ?_
    refine z_dup C rfl dX3_nextFigure_20 ?_
    refine z_get C zf_X3_19 dX3_nextFigure_21 0 rfl rfl ?_
    refine z_iconst C dX3_nextFigure_24 ?_
    obtain ⟨c6, hm⟩ := z_chk_some hm
    refine z_iadd C dX3_nextFigure_25 ?_
    refine z_puti C zf_X3_19 dX3_nextFigure_26 0 rfl rfl (ws' := [(t_o, z_o 3 [.ref t_Aletters, z_i t_length, z_i (t_at + 1)]), (t_Aletters, z_a G.2.2.2.1 200 t_letters)]) rfl ?_
    refine z_iload_n C dX3_nextFigure_29 0 rfl ?_
    refine z_bipush C dX3_nextFigure_30 (by decide) ?_
    obtain ⟨c7, hm⟩ := z_chk_some hm
    refine z_isub C dX3_nextFigure_32 ?_
    cases hm
    exact z_iret C E dX3_nextFigure_33 ⟨rfl, rfl, c7, c6, trivial⟩
  · have hm := z_neg c5 hm
    refine z_bipush C dX3_nextFigure_16 (by decide) ?_
    cases hm
    exact z_iret C E dX3_nextFigure_18 ⟨rfl, rfl, (z_k (-4) rfl), h_t_at, trivial⟩
set_option maxRecDepth 100000 in
theorem k_X3_nextNumber (l : Launch) (G : z_G) (N : Nat) (t_o t_Aletters : Nat) (t_letters : (Int → Int)) (t_length : Int) (t_at : Int) (h_t_letters : z_r t_letters) (h_t_length : z_n t_length) (h_t_at : z_n t_at) (rr : Int) (q_t_at : Int) (hm : m_X3_nextNumber N t_letters t_length t_at = some (rr, q_t_at)) : z_M l G yX3_nextNumber cX3_nextNumber 3 (some .int) (k2_rm 2 43) [.ref t_o] ([(t_o, z_o 3 [.ref t_Aletters, z_i t_length, z_i t_at]), (t_Aletters, z_a G.2.2.2.1 200 t_letters)]) 0 0 (fun v w => v = some (z_i rr) ∧ w = [(t_o, z_o 3 [.ref t_Aletters, z_i t_length, z_i q_t_at]), (t_Aletters, z_a G.2.2.2.1 200 t_letters)] ∧ z_n rr ∧ z_n q_t_at ∧ True) := by
  unfold m_X3_nextNumber at hm
  refine z_M.intro (by decide +kernel) (Nat.le_of_ble_eq_true rfl) (L := [(0, .ref t_o)]) rfl (fun X C E => ?_)
  refine z_aload_n C dX3_nextNumber_0 0 rfl ?_
  obtain ⟨r1, t_at_2, k3, hm⟩ := z_b2s hm
  refine z_callVi C (k_X3_nextFigure l G N t_o t_Aletters t_letters t_length t_at h_t_letters h_t_length h_t_at r1 t_at_2 k3) zv_X3_nextFigure zl_X3_84 dX3_nextNumber_1 [0, 1] rfl rfl rfl (ws' := [(t_o, z_o 3 [.ref t_Aletters, z_i t_length, z_i t_at_2]), (t_Aletters, z_a G.2.2.2.1 200 t_letters)]) rfl 0 rfl rfl rfl [] rfl (Nat.le_of_ble_eq_true rfl) ⟨Nat.le_of_ble_eq_true rfl, Nat.le_of_ble_eq_true rfl⟩ ⟨rfl, rfl⟩ ⟨Nat.zero_le _, Nat.zero_le _⟩ (fun hF => ?_)
  obtain ⟨h_r1, h_t_at_2, -⟩ := hF
  refine z_istore_n C dX3_nextNumber_4 (by decide) (L' := [(1, z_i r1), (0, .ref t_o)]) rfl ?_
  refine z_iload_n C dX3_nextNumber_5 0 rfl ?_
  obtain ⟨s8, t_at_9, hj, hm⟩ := z_b2s hm
  have J10 : z_n s8 → z_n t_at_9 → z_J X 0 0 ([(t_o, z_o 3 [.ref t_Aletters, z_i t_length, z_i t_at_9]), (t_Aletters, z_a G.2.2.2.1 200 t_letters)]) [(1, z_i r1)] 18 [z_i s8] := by
    intro h_s8 h_t_at_9
    clear hj
    refine z_istore_n C dX3_nextNumber_18 (by decide) (L' := [(2, z_i s8), (1, z_i r1)]) rfl ?_
    refine z_iload_n C dX3_nextNumber_19 0 rfl ?_
    refine z_if_ge (tgt := 27) C h_s8 dX3_nextNumber_20 (by decide) (fun c11 => ?_) (fun c11 => ?_)
    · have hm := z_pos c11 hm
      refine z_iload_n C dX3_nextNumber_27 1 rfl ?_
      refine z_bipush C dX3_nextNumber_28 (by decide) ?_
      obtain ⟨c12, hm⟩ := z_chk_some hm
      refine z_imul C dX3_nextNumber_30 ?_
      refine z_iload_n C dX3_nextNumber_31 0 rfl ?_
      obtain ⟨c13, hm⟩ := z_chk_some hm
      refine z_iadd C dX3_nextNumber_32 ?_
      cases hm
      exact z_iret C E dX3_nextNumber_33 ⟨rfl, rfl, c13, h_t_at_9, trivial⟩
    · have hm := z_neg c11 hm
      refine z_iload_n C dX3_nextNumber_23 1 rfl ?_
      refine z_goto (tgt := 33) C dX3_nextNumber_24 (by decide) ?_
      cases hm
      exact z_iret C E dX3_nextNumber_33 ⟨rfl, rfl, h_r1, h_t_at_9, trivial⟩
  replace hm := hj
  clear hj
  refine z_if_ge (tgt := 14) C h_r1 dX3_nextNumber_6 (by decide) (fun c4 => ?_) (fun c4 => ?_)
  · have hm := z_pos c4 hm
    refine z_aload_n C dX3_nextNumber_14 1 rfl ?_
    obtain ⟨r5, t_at_6, k7, hm⟩ := z_b2s hm
    refine z_callVi C (k_X3_nextFigure l G N t_o t_Aletters t_letters t_length t_at_2 h_t_letters h_t_length h_t_at_2 r5 t_at_6 k7) zv_X3_nextFigure zl_X3_84 dX3_nextNumber_15 [0, 1] rfl rfl rfl (ws' := [(t_o, z_o 3 [.ref t_Aletters, z_i t_length, z_i t_at_6]), (t_Aletters, z_a G.2.2.2.1 200 t_letters)]) rfl 0 rfl rfl rfl [] rfl (Nat.le_of_ble_eq_true rfl) ⟨Nat.le_of_ble_eq_true rfl, Nat.le_of_ble_eq_true rfl⟩ ⟨rfl, rfl⟩ ⟨Nat.zero_le _, Nat.zero_le _⟩ (fun hF => ?_)
    obtain ⟨h_r5, h_t_at_6, -⟩ := hF
    refine z_sub (L' := [(1, z_i r1)]) [0] rfl ?_
    cases hm
    exact J10 h_r5 h_t_at_6
  · have hm := z_neg c4 hm
    refine z_bipush C dX3_nextNumber_9 (by decide) ?_
    refine z_goto (tgt := 18) C dX3_nextNumber_11 (by decide) ?_
    refine z_sub (L' := [(1, z_i r1)]) [0] rfl ?_
    cases hm
    exact J10 (z_k (-4) rfl) h_t_at_2
set_option maxRecDepth 100000 in
theorem k_X3_skip (l : Launch) (G : z_G) (N : Nat) (t_o t_Aletters : Nat) (t_letters : (Int → Int)) (t_length : Int) (t_at : Int) (x1 : Int) (h_t_letters : z_r t_letters) (h_t_length : z_n t_length) (h_t_at : z_n t_at) (h_x1 : z_n x1) (rr : Int) (q_t_at : Int) (hm : m_X3_skip N t_letters t_length t_at x1 = some (rr, q_t_at)) : z_M l G yX3_skip cX3_skip 3 (some .boolean) (k2_rm 1 20) [.ref t_o, z_i x1] ([(t_o, z_o 3 [.ref t_Aletters, z_i t_length, z_i t_at]), (t_Aletters, z_a G.2.2.2.1 200 t_letters)]) 0 0 (fun v w => v = some (z_i rr) ∧ w = [(t_o, z_o 3 [.ref t_Aletters, z_i t_length, z_i q_t_at]), (t_Aletters, z_a G.2.2.2.1 200 t_letters)] ∧ (rr = 0 ∨ rr = 1) ∧ z_n q_t_at ∧ True) := by
  unfold m_X3_skip at hm
  refine z_M.intro (by decide +kernel) (Nat.le_of_ble_eq_true rfl) (L := [(0, .ref t_o), (1, z_i x1)]) rfl (fun X C E => ?_)
  refine z_aload_n C dX3_skip_0 0 rfl ?_
  obtain ⟨r1, k2, hm⟩ := z_b1s hm
  refine z_callVi C (k_X3_peek l G N t_o t_Aletters t_letters t_length t_at h_t_letters h_t_length h_t_at r1 k2) zv_X3_peek zl_X3_81 dX3_skip_1 [0, 1] rfl rfl rfl (ws' := [(t_o, z_o 3 [.ref t_Aletters, z_i t_length, z_i t_at]), (t_Aletters, z_a G.2.2.2.1 200 t_letters)]) rfl 0 rfl rfl rfl [] rfl (Nat.le_of_ble_eq_true rfl) ⟨Nat.le_of_ble_eq_true rfl, Nat.le_of_ble_eq_true rfl⟩ ⟨rfl, rfl⟩ ⟨Nat.zero_le _, Nat.zero_le _⟩ (fun hF => ?_)
  obtain ⟨h_r1, -⟩ := hF
  refine z_iload_n C dX3_skip_4 1 rfl ?_
  obtain ⟨s4, hj, hm⟩ := z_b1s hm
  have J5 : z_n s4 → (s4 = 0 ∨ s4 = 1) → z_J X 0 0 ([(t_o, z_o 3 [.ref t_Aletters, z_i t_length, z_i t_at]), (t_Aletters, z_a G.2.2.2.1 200 t_letters)]) [(0, .ref t_o)] 13 [z_i s4] := by
    intro h_s4 hb_s4
    clear hj
    refine z_istore_n C dX3_skip_13 (by decide) (L' := [(2, z_i s4), (0, .ref t_o)]) rfl ?_
    refine z_iload_n C dX3_skip_14 0 rfl ?_
    refine z_if_eq (tgt := 28) C h_s4 dX3_skip_15 (by decide) (fun c6 => ?_) (fun c6 => ?_)
    · have hm := z_pos c6 hm
      refine z_iload_n C dX3_skip_28 0 rfl ?_
      cases hm
      exact z_zret C E hb_s4 dX3_skip_29 ⟨rfl, rfl, hb_s4, h_t_at, trivial⟩
    · have hm := z_neg c6 hm
      refine z_aload_n C dX3_skip_18 1 rfl ?_
      refine z_dup C rfl dX3_skip_19 ?_
      refine z_get C zf_X3_19 dX3_skip_20 0 rfl rfl ?_
      refine z_iconst C dX3_skip_23 ?_
      obtain ⟨c7, hm⟩ := z_chk_some hm
      refine z_iadd C dX3_skip_24 ?_
      refine z_puti C zf_X3_19 dX3_skip_25 0 rfl rfl (ws' := [(t_o, z_o 3 [.ref t_Aletters, z_i t_length, z_i (t_at + 1)]), (t_Aletters, z_a G.2.2.2.1 200 t_letters)]) rfl ?_
      refine z_iload_n C dX3_skip_28 0 rfl ?_
      cases hm
      exact z_zret C E hb_s4 dX3_skip_29 ⟨rfl, rfl, hb_s4, c7, trivial⟩
  replace hm := hj
  clear hj
  refine z_icmp_ne (tgt := 12) C h_r1 h_x1 dX3_skip_5 (by decide) (fun c3 => ?_) (fun c3 => ?_)
  · have hm := z_pos c3 hm
    refine z_iconst C dX3_skip_12 ?_
    refine z_sub (L' := [(0, .ref t_o)]) [0] rfl ?_
    cases hm
    exact J5 (z_k 0 rfl) (Or.inl rfl)
  · have hm := z_neg c3 hm
    refine z_iconst C dX3_skip_8 ?_
    refine z_goto (tgt := 13) C dX3_skip_9 (by decide) ?_
    refine z_sub (L' := [(0, .ref t_o)]) [0] rfl ?_
    cases hm
    exact J5 (z_k 1 rfl) (Or.inr rfl)
set_option maxRecDepth 100000 in
theorem k_X0_holds (l : Launch) (G : z_G) (N : Nat) (t_o t_Akind t_Abeside t_AbesideBits : Nat) (t_rows : Int) (t_columns : Int) (t_cells : Int) (t_kind : (Int → Int)) (t_beside : (Int → Int)) (t_besideBits : (Int → Int64)) (x1 : Int) (h_t_rows : z_n t_rows) (h_t_columns : z_n t_columns) (h_t_cells : z_n t_cells) (h_t_kind : z_r t_kind) (h_t_beside : z_r t_beside) (h_x1 : z_n x1) (rr : Int) (hm : m_X0_holds N t_cells x1 = some (rr)) : z_M l G yX0_holds cX0_holds 2 (some .boolean) (k2_rm 0 0) [.ref t_o, z_i x1] ([(t_o, z_o 0 [z_i t_rows, z_i t_columns, z_i t_cells, .ref t_Akind, .ref t_Abeside, .ref t_AbesideBits]), (t_Akind, z_a G.2.1 36 t_kind), (t_Abeside, z_a G.2.1 144 t_beside), (t_AbesideBits, z_l G.2.2.1 36 t_besideBits)]) 0 0 (fun v w => v = some (z_i rr) ∧ w = [(t_o, z_o 0 [z_i t_rows, z_i t_columns, z_i t_cells, .ref t_Akind, .ref t_Abeside, .ref t_AbesideBits]), (t_Akind, z_a G.2.1 36 t_kind), (t_Abeside, z_a G.2.1 144 t_beside), (t_AbesideBits, z_l G.2.2.1 36 t_besideBits)] ∧ (rr = 0 ∨ rr = 1) ∧ True) := by
  unfold m_X0_holds at hm
  refine z_M.intro (by decide +kernel) (Nat.le_of_ble_eq_true rfl) (L := [(0, .ref t_o), (1, z_i x1)]) rfl (fun X C E => ?_)
  refine z_iload_n C dX0_holds_0 1 rfl ?_
  refine z_if_lt (tgt := 22) C h_x1 dX0_holds_1 (by decide) (fun c1 => ?_) (fun c1 => ?_)
  · have hm := z_pos c1 hm
    refine z_iconst C dX0_holds_22 ?_
    cases hm
    exact z_zret C E (Or.inl rfl) dX0_holds_23 ⟨rfl, rfl, (Or.inl rfl), trivial⟩
  · have hm := z_neg c1 hm
    refine z_iload_n C dX0_holds_4 1 rfl ?_
    refine z_aload_n C dX0_holds_5 0 rfl ?_
    refine z_get C zf_X0_18 dX0_holds_6 0 rfl rfl ?_
    refine z_icmp_ge (tgt := 22) C h_x1 h_t_cells dX0_holds_9 (by decide) (fun c2 => ?_) (fun c2 => ?_)
    · have hm := z_pos c2 hm
      refine z_iconst C dX0_holds_22 ?_
      cases hm
      exact z_zret C E (Or.inl rfl) dX0_holds_23 ⟨rfl, rfl, (Or.inl rfl), trivial⟩
    · have hm := z_neg c2 hm
      refine z_iload_n C dX0_holds_12 1 rfl ?_
      refine z_bipush C dX0_holds_13 (by decide) ?_
      refine z_icmp_ge (tgt := 22) C h_x1 (z_k 36 rfl) dX0_holds_15 (by decide) (fun c3 => ?_) (fun c3 => ?_)
      · have hm := z_pos c3 hm
        refine z_iconst C dX0_holds_22 ?_
        cases hm
        exact z_zret C E (Or.inl rfl) dX0_holds_23 ⟨rfl, rfl, (Or.inl rfl), trivial⟩
      · have hm := z_neg c3 hm
        refine z_iconst C dX0_holds_18 ?_
        refine z_goto (tgt := 23) C dX0_holds_19 (by decide) ?_
        cases hm
        exact z_zret C E (Or.inr rfl) dX0_holds_23 ⟨rfl, rfl, (Or.inr rfl), trivial⟩
set_option maxRecDepth 100000 in
theorem k_X3_tellCell (l : Launch) (G : z_G) (N : Nat) (g_o g_Akind g_Abeside g_AbesideBits w_o w_Aheight w_Adrops : Nat) (g_rows : Int) (g_columns : Int) (g_cells : Int) (g_kind : (Int → Int)) (g_beside : (Int → Int)) (g_besideBits : (Int → Int64)) (w_height : (Int → Int)) (w_drops : (Int → Int)) (w_hours : Int) (w_restless : Int64) (x2 : Int) (x3 : Int) (x4 : Int) (h_g_rows : z_n g_rows) (h_g_columns : z_n g_columns) (h_g_cells : z_n g_cells) (h_g_kind : z_r g_kind) (h_g_beside : z_r g_beside) (h_w_height : z_r w_height) (h_w_drops : z_r w_drops) (h_w_hours : z_n w_hours) (h_x2 : z_n x2) (h_x3 : z_n x3) (h_x4 : z_n x4) (rr : Int) (q_g_kind : (Int → Int)) (q_w_height : (Int → Int)) (q_w_drops : (Int → Int)) (hm : m_X3_tellCell N g_cells g_kind w_height w_drops x2 x3 x4 = some (rr, q_g_kind, q_w_height, q_w_drops)) : z_M l G yX3_tellCell cX3_tellCell 5 (some .boolean) (k2_rm 1 22) [.ref g_o, .ref w_o, z_i x2, z_i x3, z_i x4] ([(g_o, z_o 0 [z_i g_rows, z_i g_columns, z_i g_cells, .ref g_Akind, .ref g_Abeside, .ref g_AbesideBits]), (g_Akind, z_a G.2.1 36 g_kind), (g_Abeside, z_a G.2.1 144 g_beside), (g_AbesideBits, z_l G.2.2.1 36 g_besideBits), (w_o, z_o 4 [.ref w_Aheight, .ref w_Adrops, z_i w_hours, .long w_restless]), (w_Aheight, z_a G.2.1 36 w_height), (w_Adrops, z_a G.2.1 36 w_drops)]) 0 0 (fun v w => v = some (z_i rr) ∧ w = [(g_o, z_o 0 [z_i g_rows, z_i g_columns, z_i g_cells, .ref g_Akind, .ref g_Abeside, .ref g_AbesideBits]), (g_Akind, z_a G.2.1 36 q_g_kind), (g_Abeside, z_a G.2.1 144 g_beside), (g_AbesideBits, z_l G.2.2.1 36 g_besideBits), (w_o, z_o 4 [.ref w_Aheight, .ref w_Adrops, z_i w_hours, .long w_restless]), (w_Aheight, z_a G.2.1 36 q_w_height), (w_Adrops, z_a G.2.1 36 q_w_drops)] ∧ (rr = 0 ∨ rr = 1) ∧ z_r q_g_kind ∧ z_r q_w_height ∧ z_r q_w_drops ∧ True) := by
  unfold m_X3_tellCell at hm
  refine z_M.intro (by decide +kernel) (Nat.le_of_ble_eq_true rfl) (L := [(0, .ref g_o), (1, .ref w_o), (2, z_i x2), (3, z_i x3), (4, z_i x4)]) rfl (fun X C E => ?_)
  refine z_aload_n C dX3_tellCell_0 0 rfl ?_
  refine z_iload_n C dX3_tellCell_1 3 rfl ?_
  obtain ⟨r1, k2, hm⟩ := z_b1s hm
  refine z_callVi C (k_X0_holds l G N g_o g_Akind g_Abeside g_AbesideBits g_rows g_columns g_cells g_kind g_beside g_besideBits x3 h_g_rows h_g_columns h_g_cells h_g_kind h_g_beside h_x3 r1 k2) zv_X0_holds zl_X3_55 dX3_tellCell_2 [0, 1, 2, 3] rfl rfl rfl (ws' := [(g_o, z_o 0 [z_i g_rows, z_i g_columns, z_i g_cells, .ref g_Akind, .ref g_Abeside, .ref g_AbesideBits]), (g_Akind, z_a G.2.1 36 g_kind), (g_Abeside, z_a G.2.1 144 g_beside), (g_AbesideBits, z_l G.2.2.1 36 g_besideBits), (w_o, z_o 4 [.ref w_Aheight, .ref w_Adrops, z_i w_hours, .long w_restless]), (w_Aheight, z_a G.2.1 36 w_height), (w_Adrops, z_a G.2.1 36 w_drops)]) rfl 0 rfl rfl rfl [] rfl (Nat.le_of_ble_eq_true rfl) ⟨Nat.le_of_ble_eq_true rfl, Nat.le_of_ble_eq_true rfl⟩ ⟨rfl, rfl⟩ ⟨Nat.zero_le _, Nat.zero_le _⟩ (fun hF => ?_)
  obtain ⟨hb_r1, -⟩ := hF
  refine z_if_ne (tgt := 10) C (z_n01 hb_r1) dX3_tellCell_5 (by decide) (fun c3 => ?_) (fun c3 => ?_)
  · have hm := z_pos c3 hm
    refine z_iload_n C dX3_tellCell_10 2 rfl ?_
    refine z_bipush C dX3_tellCell_11 (by decide) ?_
    refine z_icmp_ne (tgt := 37) C h_x2 (z_k 104 rfl) dX3_tellCell_13 (by decide) (fun c4 => ?_) (fun c4 => ?_)
    · have hm := z_pos c4 hm
      refine z_iload_n C dX3_tellCell_37 2 rfl ?_
      refine z_bipush C dX3_tellCell_38 (by decide) ?_
      refine z_icmp_ne (tgt := 63) C h_x2 (z_k 107 rfl) dX3_tellCell_40 (by decide) (fun c5 => ?_) (fun c5 => ?_)
      · have hm := z_pos c5 hm
        refine z_iload_n C dX3_tellCell_63 2 rfl ?_
        refine z_bipush C dX3_tellCell_64 (by decide) ?_
        refine z_icmp_ne (tgt := 90) C h_x2 (z_k 119 rfl) dX3_tellCell_66 (by decide) (fun c6 => ?_) (fun c6 => ?_)
        · have hm := z_pos c6 hm
          refine z_iconst C dX3_tellCell_90 ?_
          cases hm
          exact z_zret C E (Or.inl rfl) dX3_tellCell_91 ⟨rfl, rfl, (Or.inl rfl), h_g_kind, h_w_height, h_w_drops, trivial⟩
        · have hm := z_neg c6 hm
          refine z_iload C dX3_tellCell_69 4 rfl ?_
          refine z_iconst C dX3_tellCell_71 ?_
          refine z_bipush C dX3_tellCell_72 (by decide) ?_
          obtain ⟨r7, k8, hm⟩ := z_b1s hm
          refine z_callNi C (k_X5_isFrom l G N x4 0 20 h_x4 (z_k 0 rfl) (z_k 20 rfl) r7 k8) zs_X5_isFrom zn_X3_58 dX3_tellCell_74 [] rfl rfl rfl (ws' := [(g_o, z_o 0 [z_i g_rows, z_i g_columns, z_i g_cells, .ref g_Akind, .ref g_Abeside, .ref g_AbesideBits]), (g_Akind, z_a G.2.1 36 g_kind), (g_Abeside, z_a G.2.1 144 g_beside), (g_AbesideBits, z_l G.2.2.1 36 g_besideBits), (w_o, z_o 4 [.ref w_Aheight, .ref w_Adrops, z_i w_hours, .long w_restless]), (w_Aheight, z_a G.2.1 36 w_height), (w_Adrops, z_a G.2.1 36 w_drops)]) rfl rfl [] rfl (Nat.le_of_ble_eq_true rfl) ⟨Nat.le_of_ble_eq_true rfl, Nat.le_of_ble_eq_true rfl⟩ ⟨rfl, rfl⟩ ⟨Nat.zero_le _, Nat.zero_le _⟩ (fun hF => ?_)
          obtain ⟨hb_r7, -⟩ := hF
          refine z_if_eq (tgt := 90) C (z_n01 hb_r7) dX3_tellCell_77 (by decide) (fun c9 => ?_) (fun c9 => ?_)
          · have hm := z_pos c9 hm
            refine z_iconst C dX3_tellCell_90 ?_
            cases hm
            exact z_zret C E (Or.inl rfl) dX3_tellCell_91 ⟨rfl, rfl, (Or.inl rfl), h_g_kind, h_w_height, h_w_drops, trivial⟩
          · have hm := z_neg c9 hm
            refine z_aload_n C dX3_tellCell_80 1 rfl ?_
            refine z_get C zf_X3_69 dX3_tellCell_81 4 rfl rfl ?_
            refine z_iload_n C dX3_tellCell_84 3 rfl ?_
            refine z_iload C dX3_tellCell_85 4 rfl ?_
            obtain ⟨c10, hm⟩ := z_chk_some hm
            refine z_iast C dX3_tellCell_87 6 rfl c10 h_x3 (ws' := [(g_o, z_o 0 [z_i g_rows, z_i g_columns, z_i g_cells, .ref g_Akind, .ref g_Abeside, .ref g_AbesideBits]), (g_Akind, z_a G.2.1 36 g_kind), (g_Abeside, z_a G.2.1 144 g_beside), (g_AbesideBits, z_l G.2.2.1 36 g_besideBits), (w_o, z_o 4 [.ref w_Aheight, .ref w_Adrops, z_i w_hours, .long w_restless]), (w_Aheight, z_a G.2.1 36 w_height), (w_Adrops, z_a G.2.1 36 (z_up w_drops x3 x4))]) rfl ?_
            refine z_iconst C dX3_tellCell_88 ?_
            cases hm
            exact z_zret C E (Or.inr rfl) dX3_tellCell_89 ⟨rfl, rfl, (Or.inr rfl), h_g_kind, h_w_height, (z_r_up h_w_drops h_x4), trivial⟩
      · have hm := z_neg c5 hm
        refine z_iload C dX3_tellCell_43 4 rfl ?_
        refine z_iconst C dX3_tellCell_45 ?_
        refine z_iconst C dX3_tellCell_46 ?_
        obtain ⟨r11, k12, hm⟩ := z_b1s hm
        refine z_callNi C (k_X5_isFrom l G N x4 0 4 h_x4 (z_k 0 rfl) (z_k 4 rfl) r11 k12) zs_X5_isFrom zn_X3_58 dX3_tellCell_47 [] rfl rfl rfl (ws' := [(g_o, z_o 0 [z_i g_rows, z_i g_columns, z_i g_cells, .ref g_Akind, .ref g_Abeside, .ref g_AbesideBits]), (g_Akind, z_a G.2.1 36 g_kind), (g_Abeside, z_a G.2.1 144 g_beside), (g_AbesideBits, z_l G.2.2.1 36 g_besideBits), (w_o, z_o 4 [.ref w_Aheight, .ref w_Adrops, z_i w_hours, .long w_restless]), (w_Aheight, z_a G.2.1 36 w_height), (w_Adrops, z_a G.2.1 36 w_drops)]) rfl rfl [] rfl (Nat.le_of_ble_eq_true rfl) ⟨Nat.le_of_ble_eq_true rfl, Nat.le_of_ble_eq_true rfl⟩ ⟨rfl, rfl⟩ ⟨Nat.zero_le _, Nat.zero_le _⟩ (fun hF => ?_)
        obtain ⟨hb_r11, -⟩ := hF
        refine z_if_eq (tgt := 63) C (z_n01 hb_r11) dX3_tellCell_50 (by decide) (fun c13 => ?_) (fun c13 => ?_)
        · have hm := z_pos c13 hm
          refine z_iload_n C dX3_tellCell_63 2 rfl ?_
          refine z_bipush C dX3_tellCell_64 (by decide) ?_
          refine z_icmp_ne (tgt := 90) C h_x2 (z_k 119 rfl) dX3_tellCell_66 (by decide) (fun c14 => ?_) (fun c14 => ?_)
          · have hm := z_pos c14 hm
            refine z_iconst C dX3_tellCell_90 ?_
            cases hm
            exact z_zret C E (Or.inl rfl) dX3_tellCell_91 ⟨rfl, rfl, (Or.inl rfl), h_g_kind, h_w_height, h_w_drops, trivial⟩
          · have hm := z_neg c14 hm
            refine z_iload C dX3_tellCell_69 4 rfl ?_
            refine z_iconst C dX3_tellCell_71 ?_
            refine z_bipush C dX3_tellCell_72 (by decide) ?_
            obtain ⟨r15, k16, hm⟩ := z_b1s hm
            refine z_callNi C (k_X5_isFrom l G N x4 0 20 h_x4 (z_k 0 rfl) (z_k 20 rfl) r15 k16) zs_X5_isFrom zn_X3_58 dX3_tellCell_74 [] rfl rfl rfl (ws' := [(g_o, z_o 0 [z_i g_rows, z_i g_columns, z_i g_cells, .ref g_Akind, .ref g_Abeside, .ref g_AbesideBits]), (g_Akind, z_a G.2.1 36 g_kind), (g_Abeside, z_a G.2.1 144 g_beside), (g_AbesideBits, z_l G.2.2.1 36 g_besideBits), (w_o, z_o 4 [.ref w_Aheight, .ref w_Adrops, z_i w_hours, .long w_restless]), (w_Aheight, z_a G.2.1 36 w_height), (w_Adrops, z_a G.2.1 36 w_drops)]) rfl rfl [] rfl (Nat.le_of_ble_eq_true rfl) ⟨Nat.le_of_ble_eq_true rfl, Nat.le_of_ble_eq_true rfl⟩ ⟨rfl, rfl⟩ ⟨Nat.zero_le _, Nat.zero_le _⟩ (fun hF => ?_)
            obtain ⟨hb_r15, -⟩ := hF
            refine z_if_eq (tgt := 90) C (z_n01 hb_r15) dX3_tellCell_77 (by decide) (fun c17 => ?_) (fun c17 => ?_)
            · have hm := z_pos c17 hm
              refine z_iconst C dX3_tellCell_90 ?_
              cases hm
              exact z_zret C E (Or.inl rfl) dX3_tellCell_91 ⟨rfl, rfl, (Or.inl rfl), h_g_kind, h_w_height, h_w_drops, trivial⟩
            · have hm := z_neg c17 hm
              refine z_aload_n C dX3_tellCell_80 1 rfl ?_
              refine z_get C zf_X3_69 dX3_tellCell_81 4 rfl rfl ?_
              refine z_iload_n C dX3_tellCell_84 3 rfl ?_
              refine z_iload C dX3_tellCell_85 4 rfl ?_
              obtain ⟨c18, hm⟩ := z_chk_some hm
              refine z_iast C dX3_tellCell_87 6 rfl c18 h_x3 (ws' := [(g_o, z_o 0 [z_i g_rows, z_i g_columns, z_i g_cells, .ref g_Akind, .ref g_Abeside, .ref g_AbesideBits]), (g_Akind, z_a G.2.1 36 g_kind), (g_Abeside, z_a G.2.1 144 g_beside), (g_AbesideBits, z_l G.2.2.1 36 g_besideBits), (w_o, z_o 4 [.ref w_Aheight, .ref w_Adrops, z_i w_hours, .long w_restless]), (w_Aheight, z_a G.2.1 36 w_height), (w_Adrops, z_a G.2.1 36 (z_up w_drops x3 x4))]) rfl ?_
              refine z_iconst C dX3_tellCell_88 ?_
              cases hm
              exact z_zret C E (Or.inr rfl) dX3_tellCell_89 ⟨rfl, rfl, (Or.inr rfl), h_g_kind, h_w_height, (z_r_up h_w_drops h_x4), trivial⟩
        · have hm := z_neg c13 hm
          refine z_aload_n C dX3_tellCell_53 0 rfl ?_
          refine z_get C zf_X3_66 dX3_tellCell_54 0 rfl rfl ?_
          refine z_iload_n C dX3_tellCell_57 3 rfl ?_
          refine z_iload C dX3_tellCell_58 4 rfl ?_
          obtain ⟨c19, hm⟩ := z_chk_some hm
          refine z_iast C dX3_tellCell_60 1 rfl c19 h_x3 (ws' := [(g_o, z_o 0 [z_i g_rows, z_i g_columns, z_i g_cells, .ref g_Akind, .ref g_Abeside, .ref g_AbesideBits]), (g_Akind, z_a G.2.1 36 (z_up g_kind x3 x4)), (g_Abeside, z_a G.2.1 144 g_beside), (g_AbesideBits, z_l G.2.2.1 36 g_besideBits), (w_o, z_o 4 [.ref w_Aheight, .ref w_Adrops, z_i w_hours, .long w_restless]), (w_Aheight, z_a G.2.1 36 w_height), (w_Adrops, z_a G.2.1 36 w_drops)]) rfl ?_
          refine z_iconst C dX3_tellCell_61 ?_
          cases hm
          exact z_zret C E (Or.inr rfl) dX3_tellCell_62 ⟨rfl, rfl, (Or.inr rfl), (z_r_up h_g_kind h_x4), h_w_height, h_w_drops, trivial⟩
    · have hm := z_neg c4 hm
      refine z_iload C dX3_tellCell_16 4 rfl ?_
      refine z_iconst C dX3_tellCell_18 ?_
      refine z_bipush C dX3_tellCell_19 (by decide) ?_
      obtain ⟨r20, k21, hm⟩ := z_b1s hm
      refine z_callNi C (k_X5_isFrom l G N x4 0 20 h_x4 (z_k 0 rfl) (z_k 20 rfl) r20 k21) zs_X5_isFrom zn_X3_58 dX3_tellCell_21 [] rfl rfl rfl (ws' := [(g_o, z_o 0 [z_i g_rows, z_i g_columns, z_i g_cells, .ref g_Akind, .ref g_Abeside, .ref g_AbesideBits]), (g_Akind, z_a G.2.1 36 g_kind), (g_Abeside, z_a G.2.1 144 g_beside), (g_AbesideBits, z_l G.2.2.1 36 g_besideBits), (w_o, z_o 4 [.ref w_Aheight, .ref w_Adrops, z_i w_hours, .long w_restless]), (w_Aheight, z_a G.2.1 36 w_height), (w_Adrops, z_a G.2.1 36 w_drops)]) rfl rfl [] rfl (Nat.le_of_ble_eq_true rfl) ⟨Nat.le_of_ble_eq_true rfl, Nat.le_of_ble_eq_true rfl⟩ ⟨rfl, rfl⟩ ⟨Nat.zero_le _, Nat.zero_le _⟩ (fun hF => ?_)
      obtain ⟨hb_r20, -⟩ := hF
      refine z_if_eq (tgt := 37) C (z_n01 hb_r20) dX3_tellCell_24 (by decide) (fun c22 => ?_) (fun c22 => ?_)
      · have hm := z_pos c22 hm
        refine z_iload_n C dX3_tellCell_37 2 rfl ?_
        refine z_bipush C dX3_tellCell_38 (by decide) ?_
        refine z_icmp_ne (tgt := 63) C h_x2 (z_k 107 rfl) dX3_tellCell_40 (by decide) (fun c23 => ?_) (fun c23 => ?_)
        · have hm := z_pos c23 hm
          refine z_iload_n C dX3_tellCell_63 2 rfl ?_
          refine z_bipush C dX3_tellCell_64 (by decide) ?_
          refine z_icmp_ne (tgt := 90) C h_x2 (z_k 119 rfl) dX3_tellCell_66 (by decide) (fun c24 => ?_) (fun c24 => ?_)
          · have hm := z_pos c24 hm
            refine z_iconst C dX3_tellCell_90 ?_
            cases hm
            exact z_zret C E (Or.inl rfl) dX3_tellCell_91 ⟨rfl, rfl, (Or.inl rfl), h_g_kind, h_w_height, h_w_drops, trivial⟩
          · have hm := z_neg c24 hm
            refine z_iload C dX3_tellCell_69 4 rfl ?_
            refine z_iconst C dX3_tellCell_71 ?_
            refine z_bipush C dX3_tellCell_72 (by decide) ?_
            obtain ⟨r25, k26, hm⟩ := z_b1s hm
            refine z_callNi C (k_X5_isFrom l G N x4 0 20 h_x4 (z_k 0 rfl) (z_k 20 rfl) r25 k26) zs_X5_isFrom zn_X3_58 dX3_tellCell_74 [] rfl rfl rfl (ws' := [(g_o, z_o 0 [z_i g_rows, z_i g_columns, z_i g_cells, .ref g_Akind, .ref g_Abeside, .ref g_AbesideBits]), (g_Akind, z_a G.2.1 36 g_kind), (g_Abeside, z_a G.2.1 144 g_beside), (g_AbesideBits, z_l G.2.2.1 36 g_besideBits), (w_o, z_o 4 [.ref w_Aheight, .ref w_Adrops, z_i w_hours, .long w_restless]), (w_Aheight, z_a G.2.1 36 w_height), (w_Adrops, z_a G.2.1 36 w_drops)]) rfl rfl [] rfl (Nat.le_of_ble_eq_true rfl) ⟨Nat.le_of_ble_eq_true rfl, Nat.le_of_ble_eq_true rfl⟩ ⟨rfl, rfl⟩ ⟨Nat.zero_le _, Nat.zero_le _⟩ (fun hF => ?_)
            obtain ⟨hb_r25, -⟩ := hF
            refine z_if_eq (tgt := 90) C (z_n01 hb_r25) dX3_tellCell_77 (by decide) (fun c27 => ?_) (fun c27 => ?_)
            · have hm := z_pos c27 hm
              refine z_iconst C dX3_tellCell_90 ?_
              cases hm
              exact z_zret C E (Or.inl rfl) dX3_tellCell_91 ⟨rfl, rfl, (Or.inl rfl), h_g_kind, h_w_height, h_w_drops, trivial⟩
            · have hm := z_neg c27 hm
              refine z_aload_n C dX3_tellCell_80 1 rfl ?_
              refine z_get C zf_X3_69 dX3_tellCell_81 4 rfl rfl ?_
              refine z_iload_n C dX3_tellCell_84 3 rfl ?_
              refine z_iload C dX3_tellCell_85 4 rfl ?_
              obtain ⟨c28, hm⟩ := z_chk_some hm
              refine z_iast C dX3_tellCell_87 6 rfl c28 h_x3 (ws' := [(g_o, z_o 0 [z_i g_rows, z_i g_columns, z_i g_cells, .ref g_Akind, .ref g_Abeside, .ref g_AbesideBits]), (g_Akind, z_a G.2.1 36 g_kind), (g_Abeside, z_a G.2.1 144 g_beside), (g_AbesideBits, z_l G.2.2.1 36 g_besideBits), (w_o, z_o 4 [.ref w_Aheight, .ref w_Adrops, z_i w_hours, .long w_restless]), (w_Aheight, z_a G.2.1 36 w_height), (w_Adrops, z_a G.2.1 36 (z_up w_drops x3 x4))]) rfl ?_
              refine z_iconst C dX3_tellCell_88 ?_
              cases hm
              exact z_zret C E (Or.inr rfl) dX3_tellCell_89 ⟨rfl, rfl, (Or.inr rfl), h_g_kind, h_w_height, (z_r_up h_w_drops h_x4), trivial⟩
        · have hm := z_neg c23 hm
          refine z_iload C dX3_tellCell_43 4 rfl ?_
          refine z_iconst C dX3_tellCell_45 ?_
          refine z_iconst C dX3_tellCell_46 ?_
          obtain ⟨r29, k30, hm⟩ := z_b1s hm
          refine z_callNi C (k_X5_isFrom l G N x4 0 4 h_x4 (z_k 0 rfl) (z_k 4 rfl) r29 k30) zs_X5_isFrom zn_X3_58 dX3_tellCell_47 [] rfl rfl rfl (ws' := [(g_o, z_o 0 [z_i g_rows, z_i g_columns, z_i g_cells, .ref g_Akind, .ref g_Abeside, .ref g_AbesideBits]), (g_Akind, z_a G.2.1 36 g_kind), (g_Abeside, z_a G.2.1 144 g_beside), (g_AbesideBits, z_l G.2.2.1 36 g_besideBits), (w_o, z_o 4 [.ref w_Aheight, .ref w_Adrops, z_i w_hours, .long w_restless]), (w_Aheight, z_a G.2.1 36 w_height), (w_Adrops, z_a G.2.1 36 w_drops)]) rfl rfl [] rfl (Nat.le_of_ble_eq_true rfl) ⟨Nat.le_of_ble_eq_true rfl, Nat.le_of_ble_eq_true rfl⟩ ⟨rfl, rfl⟩ ⟨Nat.zero_le _, Nat.zero_le _⟩ (fun hF => ?_)
          obtain ⟨hb_r29, -⟩ := hF
          refine z_if_eq (tgt := 63) C (z_n01 hb_r29) dX3_tellCell_50 (by decide) (fun c31 => ?_) (fun c31 => ?_)
          · have hm := z_pos c31 hm
            refine z_iload_n C dX3_tellCell_63 2 rfl ?_
            refine z_bipush C dX3_tellCell_64 (by decide) ?_
            refine z_icmp_ne (tgt := 90) C h_x2 (z_k 119 rfl) dX3_tellCell_66 (by decide) (fun c32 => ?_) (fun c32 => ?_)
            · have hm := z_pos c32 hm
              refine z_iconst C dX3_tellCell_90 ?_
              cases hm
              exact z_zret C E (Or.inl rfl) dX3_tellCell_91 ⟨rfl, rfl, (Or.inl rfl), h_g_kind, h_w_height, h_w_drops, trivial⟩
            · have hm := z_neg c32 hm
              refine z_iload C dX3_tellCell_69 4 rfl ?_
              refine z_iconst C dX3_tellCell_71 ?_
              refine z_bipush C dX3_tellCell_72 (by decide) ?_
              obtain ⟨r33, k34, hm⟩ := z_b1s hm
              refine z_callNi C (k_X5_isFrom l G N x4 0 20 h_x4 (z_k 0 rfl) (z_k 20 rfl) r33 k34) zs_X5_isFrom zn_X3_58 dX3_tellCell_74 [] rfl rfl rfl (ws' := [(g_o, z_o 0 [z_i g_rows, z_i g_columns, z_i g_cells, .ref g_Akind, .ref g_Abeside, .ref g_AbesideBits]), (g_Akind, z_a G.2.1 36 g_kind), (g_Abeside, z_a G.2.1 144 g_beside), (g_AbesideBits, z_l G.2.2.1 36 g_besideBits), (w_o, z_o 4 [.ref w_Aheight, .ref w_Adrops, z_i w_hours, .long w_restless]), (w_Aheight, z_a G.2.1 36 w_height), (w_Adrops, z_a G.2.1 36 w_drops)]) rfl rfl [] rfl (Nat.le_of_ble_eq_true rfl) ⟨Nat.le_of_ble_eq_true rfl, Nat.le_of_ble_eq_true rfl⟩ ⟨rfl, rfl⟩ ⟨Nat.zero_le _, Nat.zero_le _⟩ (fun hF => ?_)
              obtain ⟨hb_r33, -⟩ := hF
              refine z_if_eq (tgt := 90) C (z_n01 hb_r33) dX3_tellCell_77 (by decide) (fun c35 => ?_) (fun c35 => ?_)
              · have hm := z_pos c35 hm
                refine z_iconst C dX3_tellCell_90 ?_
                cases hm
                exact z_zret C E (Or.inl rfl) dX3_tellCell_91 ⟨rfl, rfl, (Or.inl rfl), h_g_kind, h_w_height, h_w_drops, trivial⟩
              · have hm := z_neg c35 hm
                refine z_aload_n C dX3_tellCell_80 1 rfl ?_
                refine z_get C zf_X3_69 dX3_tellCell_81 4 rfl rfl ?_
                refine z_iload_n C dX3_tellCell_84 3 rfl ?_
                refine z_iload C dX3_tellCell_85 4 rfl ?_
                obtain ⟨c36, hm⟩ := z_chk_some hm
                refine z_iast C dX3_tellCell_87 6 rfl c36 h_x3 (ws' := [(g_o, z_o 0 [z_i g_rows, z_i g_columns, z_i g_cells, .ref g_Akind, .ref g_Abeside, .ref g_AbesideBits]), (g_Akind, z_a G.2.1 36 g_kind), (g_Abeside, z_a G.2.1 144 g_beside), (g_AbesideBits, z_l G.2.2.1 36 g_besideBits), (w_o, z_o 4 [.ref w_Aheight, .ref w_Adrops, z_i w_hours, .long w_restless]), (w_Aheight, z_a G.2.1 36 w_height), (w_Adrops, z_a G.2.1 36 (z_up w_drops x3 x4))]) rfl ?_
                refine z_iconst C dX3_tellCell_88 ?_
                cases hm
                exact z_zret C E (Or.inr rfl) dX3_tellCell_89 ⟨rfl, rfl, (Or.inr rfl), h_g_kind, h_w_height, (z_r_up h_w_drops h_x4), trivial⟩
          · have hm := z_neg c31 hm
            refine z_aload_n C dX3_tellCell_53 0 rfl ?_
            refine z_get C zf_X3_66 dX3_tellCell_54 0 rfl rfl ?_
            refine z_iload_n C dX3_tellCell_57 3 rfl ?_
            refine z_iload C dX3_tellCell_58 4 rfl ?_
            obtain ⟨c37, hm⟩ := z_chk_some hm
            refine z_iast C dX3_tellCell_60 1 rfl c37 h_x3 (ws' := [(g_o, z_o 0 [z_i g_rows, z_i g_columns, z_i g_cells, .ref g_Akind, .ref g_Abeside, .ref g_AbesideBits]), (g_Akind, z_a G.2.1 36 (z_up g_kind x3 x4)), (g_Abeside, z_a G.2.1 144 g_beside), (g_AbesideBits, z_l G.2.2.1 36 g_besideBits), (w_o, z_o 4 [.ref w_Aheight, .ref w_Adrops, z_i w_hours, .long w_restless]), (w_Aheight, z_a G.2.1 36 w_height), (w_Adrops, z_a G.2.1 36 w_drops)]) rfl ?_
            refine z_iconst C dX3_tellCell_61 ?_
            cases hm
            exact z_zret C E (Or.inr rfl) dX3_tellCell_62 ⟨rfl, rfl, (Or.inr rfl), (z_r_up h_g_kind h_x4), h_w_height, h_w_drops, trivial⟩
      · have hm := z_neg c22 hm
        refine z_aload_n C dX3_tellCell_27 1 rfl ?_
        refine z_get C zf_X3_62 dX3_tellCell_28 4 rfl rfl ?_
        refine z_iload_n C dX3_tellCell_31 3 rfl ?_
        refine z_iload C dX3_tellCell_32 4 rfl ?_
        obtain ⟨c38, hm⟩ := z_chk_some hm
        refine z_iast C dX3_tellCell_34 5 rfl c38 h_x3 (ws' := [(g_o, z_o 0 [z_i g_rows, z_i g_columns, z_i g_cells, .ref g_Akind, .ref g_Abeside, .ref g_AbesideBits]), (g_Akind, z_a G.2.1 36 g_kind), (g_Abeside, z_a G.2.1 144 g_beside), (g_AbesideBits, z_l G.2.2.1 36 g_besideBits), (w_o, z_o 4 [.ref w_Aheight, .ref w_Adrops, z_i w_hours, .long w_restless]), (w_Aheight, z_a G.2.1 36 (z_up w_height x3 x4)), (w_Adrops, z_a G.2.1 36 w_drops)]) rfl ?_
        refine z_iconst C dX3_tellCell_35 ?_
        cases hm
        exact z_zret C E (Or.inr rfl) dX3_tellCell_36 ⟨rfl, rfl, (Or.inr rfl), h_g_kind, (z_r_up h_w_height h_x4), h_w_drops, trivial⟩
  · have hm := z_neg c3 hm
    refine z_iconst C dX3_tellCell_8 ?_
    cases hm
    exact z_zret C E (Or.inl rfl) dX3_tellCell_9 ⟨rfl, rfl, (Or.inl rfl), h_g_kind, h_w_height, h_w_drops, trivial⟩
set_option maxRecDepth 100000 in
theorem k_J7_fill_d0a16 (l : Launch) (G : z_G) (N : Nat) (a_o : Nat) (a_n : Nat) (a_f : (Int → Int64)) (x1 : Int64) (h_a_n : z_n (a_n : Int)) (q_a_f : (Int → Int64)) (hm : m_J7_fill_d0a16 N a_n a_f x1 = some (q_a_f)) : z_M l G yJ7_fill_d0a16 cJ7_fill_d0a16 5 none (k2_rm 0 0) [.ref a_o, .long x1] ([(a_o, z_l G.2.2.1 a_n a_f)]) 0 0 (fun v w => v = none ∧ w = [(a_o, z_l G.2.2.1 a_n q_a_f)] ∧ True) := by
  unfold m_J7_fill_d0a16 at hm
  refine z_M.intro (by decide +kernel) (Nat.le_of_ble_eq_true rfl) (L := [(0, .ref a_o), (1, .long x1)]) rfl (fun X C E => ?_)
  refine z_iconst C dJ7_fill_d0a16_0 ?_
  refine z_istore_n C dJ7_fill_d0a16_1 (by decide) (L' := [(3, z_i 0), (0, .ref a_o), (1, .long x1)]) rfl ?_
  refine z_aload_n C dJ7_fill_d0a16_2 1 rfl ?_
  refine z_alen_l (x := (a_n : Int)) C dJ7_fill_d0a16_3 0 rfl rfl ?_
  refine z_istore C dJ7_fill_d0a16_4 (by decide) (L' := [(4, z_i (a_n : Int)), (3, z_i 0), (0, .ref a_o), (1, .long x1)]) rfl ?_
  obtain ⟨o_a_f_1, hl, hm⟩ := z_b1s hm
  have JX1 : z_J X 0 0 ([(a_o, z_l G.2.2.1 a_n o_a_f_1)]) [] 22 [] := by
    clear hl
    cases hm
    exact z_vret C E dJ7_fill_d0a16_22 ⟨rfl, rfl, trivial⟩
  clear hm
  have L1 : ∀ (n1 : Nat) (v3_1 : Int) (a_f_1 : (Int → Int64)), z_n v3_1 → m_J7_fill_d0a16_l1 N (a_n : Int) a_n x1 n1 v3_1 a_f_1 = some (o_a_f_1) → z_J X 0 0 ([(a_o, z_l G.2.2.1 a_n a_f_1)]) [(0, .ref a_o), (1, .long x1), (3, z_i v3_1), (4, z_i (a_n : Int))] 6 [] := by
    clear hl
    intro n1
    induction n1 with
    | zero =>
      intro v3_1 a_f_1 h_v3_1 hm
      rw [m_J7_fill_d0a16_l1] at hm
      cases hm
    | succ n1 ih1 =>
      intro v3_1 a_f_1 h_v3_1 hm
      rw [m_J7_fill_d0a16_l1] at hm
      refine z_iload_n C dJ7_fill_d0a16_6 2 rfl ?_
      refine z_iload C dJ7_fill_d0a16_7 3 rfl ?_
      refine z_icmp_ge (tgt := 22) C h_v3_1 h_a_n dJ7_fill_d0a16_9 (by decide) (fun c1 => ?_) (fun c1 => ?_)
      · have hm := z_pos c1 hm
        refine z_sub (L' := []) [] rfl ?_
        cases hm
        exact JX1
      · have hm := z_neg c1 hm
        refine z_aload_n C dJ7_fill_d0a16_12 0 rfl ?_
        refine z_iload_n C dJ7_fill_d0a16_13 2 rfl ?_
        refine z_lload_n C dJ7_fill_d0a16_14 1 rfl ?_
        obtain ⟨c2, hm⟩ := z_chk_some hm
        refine z_last C dJ7_fill_d0a16_15 0 rfl c2 h_v3_1 (ws' := [(a_o, z_l G.2.2.1 a_n (z_up a_f_1 v3_1 x1))]) rfl ?_
        obtain ⟨c3, hm⟩ := z_chk_some hm
        refine z_iinc C dJ7_fill_d0a16_16 2 rfl (by decide) (L' := [(3, z_i (v3_1 + 1)), (0, .ref a_o), (1, .long x1), (4, z_i (a_n : Int))]) rfl ?_
        refine z_goto (tgt := 6) C dJ7_fill_d0a16_19 (by decide) ?_
        refine z_sub (L' := [(0, .ref a_o), (1, .long x1), (3, z_i (v3_1 + 1)), (4, z_i (a_n : Int))]) [1, 2, 0, 3] rfl ?_
        exact ih1 (v3_1 + 1) (z_up a_f_1 v3_1 x1) c3 hm
  refine z_sub (L' := [(0, .ref a_o), (1, .long x1), (3, z_i 0), (4, z_i (a_n : Int))]) [2, 3, 1, 0] rfl ?_
  exact L1 N 0 a_f (z_k 0 rfl) hl
