set_option maxRecDepth 100000 in
theorem k_X6_cell (l : Launch) (G : z_G) (N : Nat) (r_o r_Atext r_Atold r_Adraft r_Abegun r_As r_Apast r_Aimages r_Arings r_Astates r_Aheld r_Ahere r_Athere : Nat) (r_text : (Int → Int)) (r_typed : Int) (r_told : (Int → Int)) (r_draft : (Int → Int)) (r_begun : (Int → Int)) (r_s : (Int → Int)) (r_past : (Int → Int)) (r_known : Int) (r_images : (Int → Int)) (r_kept : Int) (r_rings : (Int → Int)) (r_rung : Int) (r_at : Int) (r_states : (Int → Int)) (r_held : (Int → Int)) (r_here : (Int → Int)) (r_there : (Int → Int)) (x1 : Int) (x2 : Int) (h_r_text : z_r r_text) (h_r_typed : z_n r_typed) (h_r_told : z_r r_told) (h_r_draft : z_r r_draft) (h_r_begun : z_r r_begun) (h_r_s : z_r r_s) (h_r_past : z_r r_past) (h_r_known : z_n r_known) (h_r_images : z_r r_images) (h_r_kept : z_n r_kept) (h_r_rings : z_r r_rings) (h_r_rung : z_n r_rung) (h_r_at : z_n r_at) (h_r_states : z_r r_states) (h_r_held : z_r r_held) (h_r_here : z_r r_here) (h_r_there : z_r r_there) (h_x1 : z_n x1) (h_x2 : z_n x2) (rr : Int) (q_r_states : (Int → Int)) (hm : m_X6_cell N r_told r_s r_states x1 x2 = some (rr, q_r_states)) : z_M l G yX6_cell cX6_cell 5 (some .int) (k2_rm 4 92) [.ref r_o, z_i x1, z_i x2] ([(r_o, z_o 6 [.ref r_Atext, z_i r_typed, .ref r_Atold, .ref r_Adraft, .ref r_Abegun, .ref r_As, .ref r_Apast, z_i r_known, .ref r_Aimages, z_i r_kept, .ref r_Arings, z_i r_rung, z_i r_at, .ref r_Astates, .ref r_Aheld, .ref r_Ahere, .ref r_Athere]), (r_Atext, z_a G.2.1 200 r_text), (r_Atold, z_a G.2.1 39 r_told), (r_Adraft, z_a G.2.1 39 r_draft), (r_Abegun, z_a G.2.1 73 r_begun), (r_As, z_a G.2.1 73 r_s), (r_Apast, z_a G.2.1 584 r_past), (r_Aimages, z_a G.2.1 146 r_images), (r_Arings, z_a G.2.1 6 r_rings), (r_Astates, z_a G.2.1 36 r_states), (r_Aheld, z_a G.2.1 73 r_held), (r_Ahere, z_a G.2.2.2.2 36 r_here), (r_Athere, z_a G.2.2.2.2 36 r_there)]) 0 0 (fun v w => v = some (z_i rr) ∧ w = [(r_o, z_o 6 [.ref r_Atext, z_i r_typed, .ref r_Atold, .ref r_Adraft, .ref r_Abegun, .ref r_As, .ref r_Apast, z_i r_known, .ref r_Aimages, z_i r_kept, .ref r_Arings, z_i r_rung, z_i r_at, .ref r_Astates, .ref r_Aheld, .ref r_Ahere, .ref r_Athere]), (r_Atext, z_a G.2.1 200 r_text), (r_Atold, z_a G.2.1 39 r_told), (r_Adraft, z_a G.2.1 39 r_draft), (r_Abegun, z_a G.2.1 73 r_begun), (r_As, z_a G.2.1 73 r_s), (r_Apast, z_a G.2.1 584 r_past), (r_Aimages, z_a G.2.1 146 r_images), (r_Arings, z_a G.2.1 6 r_rings), (r_Astates, z_a G.2.1 36 q_r_states), (r_Aheld, z_a G.2.1 73 r_held), (r_Ahere, z_a G.2.2.2.2 36 r_here), (r_Athere, z_a G.2.2.2.2 36 r_there)] ∧ z_n rr ∧ z_r q_r_states ∧ True) := by
  unfold m_X6_cell at hm
  refine z_M.intro (by decide +kernel) (Nat.le_of_ble_eq_true rfl) (L := [(0, .ref r_o), (1, z_i x1), (2, z_i x2)]) rfl (fun X C E => ?_)
  refine z_aload_n C dX6_cell_0 0 rfl ?_
  refine z_iload_n C dX6_cell_1 1 rfl ?_
  obtain ⟨r1, k2, hm⟩ := z_b1s hm
  refine z_callVid C (k_X6_isCell l G N r_o r_Atext r_Atold r_Adraft r_Abegun r_As r_Apast r_Aimages r_Arings r_Astates r_Aheld r_Ahere r_Athere r_text r_typed r_told r_draft r_begun r_s r_past r_known r_images r_kept r_rings r_rung r_at r_states r_held r_here r_there x1 h_r_text h_r_typed h_r_told h_r_draft h_r_begun h_r_s h_r_past h_r_known h_r_images h_r_kept h_r_rings h_r_rung h_r_at h_r_states h_r_held h_r_here h_r_there h_x1 r1 k2) zv_X6_isCell zl_X6_98 dX6_cell_2 rfl 0 rfl rfl rfl [] rfl (Nat.le_of_ble_eq_true rfl) ⟨Nat.le_of_ble_eq_true rfl, Nat.le_of_ble_eq_true rfl⟩ ⟨rfl, rfl⟩ ⟨Nat.zero_le _, Nat.zero_le _⟩ (fun hF => ?_)
  obtain ⟨hb_r1, -⟩ := hF
  refine z_if_ne (tgt := 10) C (z_n01 hb_r1) dX6_cell_5 (by decide) (fun c3 => ?_) (fun c3 => ?_)
  · have hm := z_pos c3 hm
    refine z_aload_n C dX6_cell_10 0 rfl ?_
    obtain ⟨r_states_4, k5, hm⟩ := z_b1s hm
    refine z_callVvd C (k_X6_laysStates l G N r_o r_Atext r_Atold r_Adraft r_Abegun r_As r_Apast r_Aimages r_Arings r_Astates r_Aheld r_Ahere r_Athere r_text r_typed r_told r_draft r_begun r_s r_past r_known r_images r_kept r_rings r_rung r_at r_states r_held r_here r_there h_r_text h_r_typed h_r_told h_r_draft h_r_begun h_r_s h_r_past h_r_known h_r_images h_r_kept h_r_rings h_r_rung h_r_at h_r_states h_r_held h_r_here h_r_there r_states_4 k5) zv_X6_laysStates zl_X6_118 dX6_cell_11 rfl 0 rfl rfl rfl [] rfl (Nat.le_of_ble_eq_true rfl) ⟨Nat.le_of_ble_eq_true rfl, Nat.le_of_ble_eq_true rfl⟩ ⟨rfl, rfl⟩ ⟨Nat.zero_le _, Nat.zero_le _⟩ (fun hF => ?_)
    obtain ⟨h_r_states_4, -⟩ := hF
    refine z_iconst C dX6_cell_14 ?_
    refine z_istore_n C dX6_cell_15 (by decide) (L' := [(3, z_i 0), (0, .ref r_o), (1, z_i x1), (2, z_i x2)]) rfl ?_
    refine z_iconst C dX6_cell_16 ?_
    refine z_istore C dX6_cell_17 (by decide) (L' := [(4, z_i 0), (3, z_i 0), (0, .ref r_o), (1, z_i x1), (2, z_i x2)]) rfl ?_
    obtain ⟨o3_1, hl, hm⟩ := z_b1s hm
    have JX1 : z_n o3_1 → z_J X 0 0 ([(r_o, z_o 6 [.ref r_Atext, z_i r_typed, .ref r_Atold, .ref r_Adraft, .ref r_Abegun, .ref r_As, .ref r_Apast, z_i r_known, .ref r_Aimages, z_i r_kept, .ref r_Arings, z_i r_rung, z_i r_at, .ref r_Astates, .ref r_Aheld, .ref r_Ahere, .ref r_Athere]), (r_Atext, z_a G.2.1 200 r_text), (r_Atold, z_a G.2.1 39 r_told), (r_Adraft, z_a G.2.1 39 r_draft), (r_Abegun, z_a G.2.1 73 r_begun), (r_As, z_a G.2.1 73 r_s), (r_Apast, z_a G.2.1 584 r_past), (r_Aimages, z_a G.2.1 146 r_images), (r_Arings, z_a G.2.1 6 r_rings), (r_Astates, z_a G.2.1 36 r_states_4), (r_Aheld, z_a G.2.1 73 r_held), (r_Ahere, z_a G.2.2.2.2 36 r_here), (r_Athere, z_a G.2.2.2.2 36 r_there)]) [(0, .ref r_o), (1, z_i x1), (2, z_i x2), (3, z_i o3_1)] 82 [] := by
      intro h_o3_1
      clear hl
      refine z_iload_n C dX6_cell_82 2 rfl ?_
      rcases z_ite hm with ⟨cs83_0, hm⟩ | ⟨cs83_0, hm⟩
      · refine z_tabIn (tgt := 120) C h_x2 dX6_cell_83 0 cs83_0 (by decide) rfl (by decide) ?_
        refine z_aload_n C dX6_cell_120 0 rfl ?_
        refine z_get C zf_X6_22 dX6_cell_121 0 rfl rfl ?_
        refine z_bipush C dX6_cell_124 (by decide) ?_
        refine z_iload_n C dX6_cell_126 1 rfl ?_
        obtain ⟨c21, hm⟩ := z_chk_some hm
        refine z_iadd C dX6_cell_127 ?_
        obtain ⟨c22, hm⟩ := z_chk_some hm
        refine z_iald C dX6_cell_128 5 rfl c22 c21 ?_
        cases hm
        exact z_iret C E dX6_cell_129 ⟨rfl, rfl, (h_r_s _), h_r_states_4, trivial⟩
      · rcases z_ite hm with ⟨cs83_1, hm⟩ | ⟨cs83_1, hm⟩
        · refine z_tabIn (tgt := 130) C h_x2 dX6_cell_83 1 cs83_1 (by decide) rfl (by decide) ?_
          refine z_aload_n C dX6_cell_130 0 rfl ?_
          refine z_get C zf_X6_13 dX6_cell_131 0 rfl rfl ?_
          refine z_iconst C dX6_cell_134 ?_
          refine z_iload_n C dX6_cell_135 1 rfl ?_
          obtain ⟨c23, hm⟩ := z_chk_some hm
          refine z_iadd C dX6_cell_136 ?_
          obtain ⟨c24, hm⟩ := z_chk_some hm
          refine z_iald C dX6_cell_137 2 rfl c24 c23 ?_
          cases hm
          exact z_iret C E dX6_cell_138 ⟨rfl, rfl, (h_r_told _), h_r_states_4, trivial⟩
        · rcases z_ite hm with ⟨cs83_2, hm⟩ | ⟨cs83_2, hm⟩
          · refine z_tabIn (tgt := 139) C h_x2 dX6_cell_83 2 cs83_2 (by decide) rfl (by decide) ?_
            refine z_aload_n C dX6_cell_139 0 rfl ?_
            refine z_get C zf_X6_22 dX6_cell_140 0 rfl rfl ?_
            refine z_iload_n C dX6_cell_143 1 rfl ?_
            obtain ⟨c25, hm⟩ := z_chk_some hm
            refine z_iald C dX6_cell_144 5 rfl c25 h_x1 ?_
            cases hm
            exact z_iret C E dX6_cell_145 ⟨rfl, rfl, (h_r_s _), h_r_states_4, trivial⟩
          · rcases z_ite hm with ⟨cs83_3, hm⟩ | ⟨cs83_3, hm⟩
            · refine z_tabIn (tgt := 146) C h_x2 dX6_cell_83 3 cs83_3 (by decide) rfl (by decide) ?_
              refine z_aload_n C dX6_cell_146 0 rfl ?_
              refine z_get C zf_X6_34 dX6_cell_147 0 rfl rfl ?_
              refine z_iload_n C dX6_cell_150 1 rfl ?_
              obtain ⟨c26, hm⟩ := z_chk_some hm
              refine z_iald C dX6_cell_151 9 rfl c26 h_x1 ?_
              refine z_if_ge (tgt := 160) C (h_r_states_4 _) dX6_cell_152 (by decide) (fun c27 => ?_) (fun c27 => ?_)
              · have hm := z_pos c27 hm
                refine z_aload_n C dX6_cell_160 0 rfl ?_
                refine z_get C zf_X6_34 dX6_cell_161 0 rfl rfl ?_
                refine z_iload_n C dX6_cell_164 1 rfl ?_
                obtain ⟨c28, hm⟩ := z_chk_some hm
                refine z_iald C dX6_cell_165 9 rfl c28 h_x1 ?_
                cases hm
                exact z_iret C E dX6_cell_166 ⟨rfl, rfl, (h_r_states_4 _), h_r_states_4, trivial⟩
              · have hm := z_neg c27 hm
                refine z_bipush C dX6_cell_155 (by decide) ?_
                refine z_goto (tgt := 166) C dX6_cell_157 (by decide) ?_
                cases hm
                exact z_iret C E dX6_cell_166 ⟨rfl, rfl, (z_k (-4) rfl), h_r_states_4, trivial⟩
            · rcases z_ite hm with ⟨cs83_4, hm⟩ | ⟨cs83_4, hm⟩
              · refine z_tabIn (tgt := 167) C h_x2 dX6_cell_83 4 cs83_4 (by decide) rfl (by decide) ?_
                refine z_aload_n C dX6_cell_167 0 rfl ?_
                refine z_aload_n C dX6_cell_168 0 rfl ?_
                refine z_get C zf_X6_34 dX6_cell_169 0 rfl rfl ?_
                refine z_iload_n C dX6_cell_172 1 rfl ?_
                obtain ⟨c29, hm⟩ := z_chk_some hm
                refine z_iald C dX6_cell_173 9 rfl c29 h_x1 ?_
                obtain ⟨r30, k31, hm⟩ := z_b1s hm
                refine z_callVid C (k_X6_sizeOf l G N r_o r_Atext r_Atold r_Adraft r_Abegun r_As r_Apast r_Aimages r_Arings r_Astates r_Aheld r_Ahere r_Athere r_text r_typed r_told r_draft r_begun r_s r_past r_known r_images r_kept r_rings r_rung r_at r_states_4 r_held r_here r_there (r_states_4 x1) h_r_text h_r_typed h_r_told h_r_draft h_r_begun h_r_s h_r_past h_r_known h_r_images h_r_kept h_r_rings h_r_rung h_r_at h_r_states_4 h_r_held h_r_here h_r_there (h_r_states_4 _) r30 k31) zv_X6_sizeOf zl_X6_121 dX6_cell_174 rfl 0 rfl rfl rfl [] rfl (Nat.le_of_ble_eq_true rfl) ⟨Nat.le_of_ble_eq_true rfl, Nat.le_of_ble_eq_true rfl⟩ ⟨rfl, rfl⟩ ⟨Nat.zero_le _, Nat.zero_le _⟩ (fun hF => ?_)
                obtain ⟨h_r30, -⟩ := hF
                cases hm
                exact z_iret C E dX6_cell_177 ⟨rfl, rfl, h_r30, h_r_states_4, trivial⟩
              · rcases z_ite hm with ⟨cs83_5, hm⟩ | ⟨cs83_5, hm⟩
                · refine z_tabIn (tgt := 178) C h_x2 dX6_cell_83 5 cs83_5 (by decide) rfl (by decide) ?_
                  refine z_iload_n C dX6_cell_178 3 rfl ?_
                  cases hm
                  exact z_iret C E dX6_cell_179 ⟨rfl, rfl, h_o3_1, h_r_states_4, trivial⟩
                · refine z_tabOut (tgt := 180) C h_x2 dX6_cell_83 (by omega) (by decide) ?_
                  refine z_iconst C dX6_cell_180 ?_
                  cases hm
                  exact z_iret C E dX6_cell_181 ⟨rfl, rfl, (z_k (-1) rfl), h_r_states_4, trivial⟩
    clear hm
    have L1 : ∀ (n1 : Nat) (v3_1 : Int) (v4_1 : Int), z_n v3_1 → z_n v4_1 → m_X6_cell_l1 N r_told x1 r_states_4 r_s n1 v3_1 v4_1 = some (o3_1) → z_J X 0 0 ([(r_o, z_o 6 [.ref r_Atext, z_i r_typed, .ref r_Atold, .ref r_Adraft, .ref r_Abegun, .ref r_As, .ref r_Apast, z_i r_known, .ref r_Aimages, z_i r_kept, .ref r_Arings, z_i r_rung, z_i r_at, .ref r_Astates, .ref r_Aheld, .ref r_Ahere, .ref r_Athere]), (r_Atext, z_a G.2.1 200 r_text), (r_Atold, z_a G.2.1 39 r_told), (r_Adraft, z_a G.2.1 39 r_draft), (r_Abegun, z_a G.2.1 73 r_begun), (r_As, z_a G.2.1 73 r_s), (r_Apast, z_a G.2.1 584 r_past), (r_Aimages, z_a G.2.1 146 r_images), (r_Arings, z_a G.2.1 6 r_rings), (r_Astates, z_a G.2.1 36 r_states_4), (r_Aheld, z_a G.2.1 73 r_held), (r_Ahere, z_a G.2.2.2.2 36 r_here), (r_Athere, z_a G.2.2.2.2 36 r_there)]) [(0, .ref r_o), (1, z_i x1), (2, z_i x2), (3, z_i v3_1), (4, z_i v4_1)] 19 [] := by
      clear hl
      intro n1
      induction n1 with
      | zero =>
        intro v3_1 v4_1 h_v3_1 h_v4_1 hm
        rw [m_X6_cell_l1] at hm
        cases hm
      | succ n1 ih1 =>
        intro v3_1 v4_1 h_v3_1 h_v4_1 hm
        rw [m_X6_cell_l1] at hm
        refine z_iload C dX6_cell_19 4 rfl ?_
        refine z_aload_n C dX6_cell_21 0 rfl ?_
        obtain ⟨r6, k7, hm⟩ := z_b1s hm
        refine z_callVid C (k_X6_cells l G N r_o r_Atext r_Atold r_Adraft r_Abegun r_As r_Apast r_Aimages r_Arings r_Astates r_Aheld r_Ahere r_Athere r_text r_typed r_told r_draft r_begun r_s r_past r_known r_images r_kept r_rings r_rung r_at r_states_4 r_held r_here r_there h_r_text h_r_typed h_r_told h_r_draft h_r_begun h_r_s h_r_past h_r_known h_r_images h_r_kept h_r_rings h_r_rung h_r_at h_r_states_4 h_r_held h_r_here h_r_there r6 k7) zv_X6_cells zl_X6_53 dX6_cell_22 rfl 0 rfl rfl rfl [z_i v4_1] rfl (Nat.le_of_ble_eq_true rfl) ⟨Nat.le_of_ble_eq_true rfl, Nat.le_of_ble_eq_true rfl⟩ ⟨rfl, rfl⟩ ⟨Nat.zero_le _, Nat.zero_le _⟩ (fun hF => ?_)
        obtain ⟨h_r6, -⟩ := hF
        refine z_icmp_ge (tgt := 82) C h_v4_1 h_r6 dX6_cell_25 (by decide) (fun c8 => ?_) (fun c8 => ?_)
        · have hm := z_pos c8 hm
          refine z_sub (L' := [(0, .ref r_o), (1, z_i x1), (2, z_i x2), (3, z_i v3_1)]) [0, 1, 2, 3] rfl ?_
          cases hm
          exact JX1 h_v3_1
        · have hm := z_neg c8 hm
          refine z_aload_n C dX6_cell_28 0 rfl ?_
          refine z_get C zf_X6_34 dX6_cell_29 0 rfl rfl ?_
          refine z_iload_n C dX6_cell_32 1 rfl ?_
          obtain ⟨c9, hm⟩ := z_chk_some hm
          refine z_iald C dX6_cell_33 9 rfl c9 h_x1 ?_
          refine z_if_lt (tgt := 74) C (h_r_states_4 _) dX6_cell_34 (by decide) (fun c10 => ?_) (fun c10 => ?_)
          · have hm := z_pos c10 hm
            refine z_iload_n C dX6_cell_74 3 rfl ?_
            refine z_istore_n C dX6_cell_75 (by decide) (L' := [(3, z_i v3_1), (0, .ref r_o), (1, z_i x1), (2, z_i x2), (4, z_i v4_1)]) rfl ?_
            obtain ⟨c11, hm⟩ := z_chk_some hm
            refine z_iinc C dX6_cell_76 4 rfl (by decide) (L' := [(4, z_i (v4_1 + 1)), (3, z_i v3_1), (0, .ref r_o), (1, z_i x1), (2, z_i x2)]) rfl ?_
            refine z_goto (tgt := 19) C dX6_cell_79 (by decide) ?_
            refine z_sub (L' := [(0, .ref r_o), (1, z_i x1), (2, z_i x2), (3, z_i v3_1), (4, z_i (v4_1 + 1))]) [2, 3, 4, 1, 0] rfl ?_
            exact ih1 v3_1 (v4_1 + 1) h_v3_1 c11 hm
          · have hm := z_neg c10 hm
            refine z_aload_n C dX6_cell_37 0 rfl ?_
            refine z_get C zf_X6_34 dX6_cell_38 0 rfl rfl ?_
            refine z_iload C dX6_cell_41 4 rfl ?_
            obtain ⟨c12, hm⟩ := z_chk_some hm
            refine z_iald C dX6_cell_43 9 rfl c12 h_v4_1 ?_
            refine z_aload_n C dX6_cell_44 0 rfl ?_
            refine z_get C zf_X6_34 dX6_cell_45 0 rfl rfl ?_
            refine z_iload_n C dX6_cell_48 1 rfl ?_
            obtain ⟨c13, hm⟩ := z_chk_some hm
            refine z_iald C dX6_cell_49 9 rfl c13 h_x1 ?_
            refine z_icmp_ne (tgt := 74) C (h_r_states_4 _) (h_r_states_4 _) dX6_cell_50 (by decide) (fun c14 => ?_) (fun c14 => ?_)
            · have hm := z_pos c14 hm
              refine z_iload_n C dX6_cell_74 3 rfl ?_
              refine z_istore_n C dX6_cell_75 (by decide) (L' := [(3, z_i v3_1), (0, .ref r_o), (1, z_i x1), (2, z_i x2), (4, z_i v4_1)]) rfl ?_
              obtain ⟨c15, hm⟩ := z_chk_some hm
              refine z_iinc C dX6_cell_76 4 rfl (by decide) (L' := [(4, z_i (v4_1 + 1)), (3, z_i v3_1), (0, .ref r_o), (1, z_i x1), (2, z_i x2)]) rfl ?_
              refine z_goto (tgt := 19) C dX6_cell_79 (by decide) ?_
              refine z_sub (L' := [(0, .ref r_o), (1, z_i x1), (2, z_i x2), (3, z_i v3_1), (4, z_i (v4_1 + 1))]) [2, 3, 4, 1, 0] rfl ?_
              exact ih1 v3_1 (v4_1 + 1) h_v3_1 c15 hm
            · have hm := z_neg c14 hm
              refine z_aload_n C dX6_cell_53 0 rfl ?_
              refine z_get C zf_X6_22 dX6_cell_54 0 rfl rfl ?_
              refine z_iload C dX6_cell_57 4 rfl ?_
              obtain ⟨c16, hm⟩ := z_chk_some hm
              refine z_iald C dX6_cell_59 5 rfl c16 h_v4_1 ?_
              refine z_iload_n C dX6_cell_60 3 rfl ?_
              refine z_icmp_le (tgt := 74) C (h_r_s _) h_v3_1 dX6_cell_61 (by decide) (fun c17 => ?_) (fun c17 => ?_)
              · have hm := z_pos c17 hm
                refine z_iload_n C dX6_cell_74 3 rfl ?_
                refine z_istore_n C dX6_cell_75 (by decide) (L' := [(3, z_i v3_1), (0, .ref r_o), (1, z_i x1), (2, z_i x2), (4, z_i v4_1)]) rfl ?_
                obtain ⟨c18, hm⟩ := z_chk_some hm
                refine z_iinc C dX6_cell_76 4 rfl (by decide) (L' := [(4, z_i (v4_1 + 1)), (3, z_i v3_1), (0, .ref r_o), (1, z_i x1), (2, z_i x2)]) rfl ?_
                refine z_goto (tgt := 19) C dX6_cell_79 (by decide) ?_
                refine z_sub (L' := [(0, .ref r_o), (1, z_i x1), (2, z_i x2), (3, z_i v3_1), (4, z_i (v4_1 + 1))]) [2, 3, 4, 1, 0] rfl ?_
                exact ih1 v3_1 (v4_1 + 1) h_v3_1 c18 hm
              · have hm := z_neg c17 hm
                refine z_aload_n C dX6_cell_64 0 rfl ?_
                refine z_get C zf_X6_22 dX6_cell_65 0 rfl rfl ?_
                refine z_iload C dX6_cell_68 4 rfl ?_
                obtain ⟨c19, hm⟩ := z_chk_some hm
                refine z_iald C dX6_cell_70 5 rfl c19 h_v4_1 ?_
                refine z_goto (tgt := 75) C dX6_cell_71 (by decide) ?_
                refine z_istore_n C dX6_cell_75 (by decide) (L' := [(3, z_i (r_s v4_1)), (0, .ref r_o), (1, z_i x1), (2, z_i x2), (4, z_i v4_1)]) rfl ?_
                obtain ⟨c20, hm⟩ := z_chk_some hm
                refine z_iinc C dX6_cell_76 4 rfl (by decide) (L' := [(4, z_i (v4_1 + 1)), (3, z_i (r_s v4_1)), (0, .ref r_o), (1, z_i x1), (2, z_i x2)]) rfl ?_
                refine z_goto (tgt := 19) C dX6_cell_79 (by decide) ?_
                refine z_sub (L' := [(0, .ref r_o), (1, z_i x1), (2, z_i x2), (3, z_i (r_s v4_1)), (4, z_i (v4_1 + 1))]) [2, 3, 4, 1, 0] rfl ?_
                exact ih1 (r_s v4_1) (v4_1 + 1) (h_r_s _) c20 hm
    refine z_sub (L' := [(0, .ref r_o), (1, z_i x1), (2, z_i x2), (3, z_i 0), (4, z_i 0)]) [2, 3, 4, 1, 0] rfl ?_
    exact L1 N 0 0 (z_k 0 rfl) (z_k 0 rfl) hl
  · have hm := z_neg c3 hm
    refine z_iconst C dX6_cell_8 ?_
    cases hm
    exact z_iret C E dX6_cell_9 ⟨rfl, rfl, (z_k (-1) rfl), h_r_states, trivial⟩
set_option maxRecDepth 100000 in
theorem k_X6_keeps (l : Launch) (G : z_G) (N : Nat) (r_o r_Atext r_Atold r_Adraft r_Abegun r_As r_Apast r_Aimages r_Arings r_Astates r_Aheld r_Ahere r_Athere : Nat) (r_text : (Int → Int)) (r_typed : Int) (r_told : (Int → Int)) (r_draft : (Int → Int)) (r_begun : (Int → Int)) (r_s : (Int → Int)) (r_past : (Int → Int)) (r_known : Int) (r_images : (Int → Int)) (r_kept : Int) (r_rings : (Int → Int)) (r_rung : Int) (r_at : Int) (r_states : (Int → Int)) (r_held : (Int → Int)) (r_here : (Int → Int)) (r_there : (Int → Int)) (h_r_text : z_r r_text) (h_r_typed : z_n r_typed) (h_r_told : z_r r_told) (h_r_draft : z_r r_draft) (h_r_begun : z_r r_begun) (h_r_s : z_r r_s) (h_r_past : z_r r_past) (h_r_known : z_n r_known) (h_r_images : z_r r_images) (h_r_kept : z_n r_kept) (h_r_rings : z_r r_rings) (h_r_rung : z_n r_rung) (h_r_at : z_n r_at) (h_r_states : z_r r_states) (h_r_held : z_r r_held) (h_r_here : z_r r_here) (h_r_there : z_r r_there) (q_r_past : (Int → Int)) (q_r_known : Int) (hm : m_X6_keeps N r_s r_past r_known = some (q_r_past, q_r_known)) : z_M l G yX6_keeps cX6_keeps 2 none (k2_rm 0 0) [.ref r_o] ([(r_o, z_o 6 [.ref r_Atext, z_i r_typed, .ref r_Atold, .ref r_Adraft, .ref r_Abegun, .ref r_As, .ref r_Apast, z_i r_known, .ref r_Aimages, z_i r_kept, .ref r_Arings, z_i r_rung, z_i r_at, .ref r_Astates, .ref r_Aheld, .ref r_Ahere, .ref r_Athere]), (r_Atext, z_a G.2.1 200 r_text), (r_Atold, z_a G.2.1 39 r_told), (r_Adraft, z_a G.2.1 39 r_draft), (r_Abegun, z_a G.2.1 73 r_begun), (r_As, z_a G.2.1 73 r_s), (r_Apast, z_a G.2.1 584 r_past), (r_Aimages, z_a G.2.1 146 r_images), (r_Arings, z_a G.2.1 6 r_rings), (r_Astates, z_a G.2.1 36 r_states), (r_Aheld, z_a G.2.1 73 r_held), (r_Ahere, z_a G.2.2.2.2 36 r_here), (r_Athere, z_a G.2.2.2.2 36 r_there)]) 0 0 (fun v w => v = none ∧ w = [(r_o, z_o 6 [.ref r_Atext, z_i r_typed, .ref r_Atold, .ref r_Adraft, .ref r_Abegun, .ref r_As, .ref r_Apast, z_i q_r_known, .ref r_Aimages, z_i r_kept, .ref r_Arings, z_i r_rung, z_i r_at, .ref r_Astates, .ref r_Aheld, .ref r_Ahere, .ref r_Athere]), (r_Atext, z_a G.2.1 200 r_text), (r_Atold, z_a G.2.1 39 r_told), (r_Adraft, z_a G.2.1 39 r_draft), (r_Abegun, z_a G.2.1 73 r_begun), (r_As, z_a G.2.1 73 r_s), (r_Apast, z_a G.2.1 584 q_r_past), (r_Aimages, z_a G.2.1 146 r_images), (r_Arings, z_a G.2.1 6 r_rings), (r_Astates, z_a G.2.1 36 r_states), (r_Aheld, z_a G.2.1 73 r_held), (r_Ahere, z_a G.2.2.2.2 36 r_here), (r_Athere, z_a G.2.2.2.2 36 r_there)] ∧ z_r q_r_past ∧ z_n q_r_known ∧ True) := by
  unfold m_X6_keeps at hm
  refine z_M.intro (by decide +kernel) (Nat.le_of_ble_eq_true rfl) (L := [(0, .ref r_o)]) rfl (fun X C E => ?_)
  refine z_aload_n C dX6_keeps_0 0 rfl ?_
  refine z_get C zf_X6_89 dX6_keeps_1 0 rfl rfl ?_
  refine z_bipush C dX6_keeps_4 (by decide) ?_
  obtain ⟨r_past_8, r_known_9, hj, hm⟩ := z_b2s hm
  have J10 : z_r r_past_8 → z_n r_known_9 → z_J X 0 0 ([(r_o, z_o 6 [.ref r_Atext, z_i r_typed, .ref r_Atold, .ref r_Adraft, .ref r_Abegun, .ref r_As, .ref r_Apast, z_i r_known_9, .ref r_Aimages, z_i r_kept, .ref r_Arings, z_i r_rung, z_i r_at, .ref r_Astates, .ref r_Aheld, .ref r_Ahere, .ref r_Athere]), (r_Atext, z_a G.2.1 200 r_text), (r_Atold, z_a G.2.1 39 r_told), (r_Adraft, z_a G.2.1 39 r_draft), (r_Abegun, z_a G.2.1 73 r_begun), (r_As, z_a G.2.1 73 r_s), (r_Apast, z_a G.2.1 584 r_past_8), (r_Aimages, z_a G.2.1 146 r_images), (r_Arings, z_a G.2.1 6 r_rings), (r_Astates, z_a G.2.1 36 r_states), (r_Aheld, z_a G.2.1 73 r_held), (r_Ahere, z_a G.2.2.2.2 36 r_here), (r_Athere, z_a G.2.2.2.2 36 r_there)]) [(0, .ref r_o)] 49 [] := by
    intro h_r_past_8 h_r_known_9
    clear hj
    refine z_iconst C dX6_keeps_49 ?_
    refine z_istore_n C dX6_keeps_50 (by decide) (L' := [(1, z_i 0), (0, .ref r_o)]) rfl ?_
    obtain ⟨o_r_past_2, hl, hm⟩ := z_b1s hm
    have JX2 : z_r o_r_past_2 → z_J X 0 0 ([(r_o, z_o 6 [.ref r_Atext, z_i r_typed, .ref r_Atold, .ref r_Adraft, .ref r_Abegun, .ref r_As, .ref r_Apast, z_i r_known_9, .ref r_Aimages, z_i r_kept, .ref r_Arings, z_i r_rung, z_i r_at, .ref r_Astates, .ref r_Aheld, .ref r_Ahere, .ref r_Athere]), (r_Atext, z_a G.2.1 200 r_text), (r_Atold, z_a G.2.1 39 r_told), (r_Adraft, z_a G.2.1 39 r_draft), (r_Abegun, z_a G.2.1 73 r_begun), (r_As, z_a G.2.1 73 r_s), (r_Apast, z_a G.2.1 584 o_r_past_2), (r_Aimages, z_a G.2.1 146 r_images), (r_Arings, z_a G.2.1 6 r_rings), (r_Astates, z_a G.2.1 36 r_states), (r_Aheld, z_a G.2.1 73 r_held), (r_Ahere, z_a G.2.2.2.2 36 r_here), (r_Athere, z_a G.2.2.2.2 36 r_there)]) [(0, .ref r_o)] 83 [] := by
      intro h_o_r_past_2
      clear hl
      refine z_aload_n C dX6_keeps_83 0 rfl ?_
      refine z_dup C rfl dX6_keeps_84 ?_
      refine z_get C zf_X6_89 dX6_keeps_85 0 rfl rfl ?_
      refine z_iconst C dX6_keeps_88 ?_
      obtain ⟨c17, hm⟩ := z_chk_some hm
      refine z_iadd C dX6_keeps_89 ?_
      refine z_puti C zf_X6_89 dX6_keeps_90 0 rfl rfl (ws' := [(r_o, z_o 6 [.ref r_Atext, z_i r_typed, .ref r_Atold, .ref r_Adraft, .ref r_Abegun, .ref r_As, .ref r_Apast, z_i (r_known_9 + 1), .ref r_Aimages, z_i r_kept, .ref r_Arings, z_i r_rung, z_i r_at, .ref r_Astates, .ref r_Aheld, .ref r_Ahere, .ref r_Athere]), (r_Atext, z_a G.2.1 200 r_text), (r_Atold, z_a G.2.1 39 r_told), (r_Adraft, z_a G.2.1 39 r_draft), (r_Abegun, z_a G.2.1 73 r_begun), (r_As, z_a G.2.1 73 r_s), (r_Apast, z_a G.2.1 584 o_r_past_2), (r_Aimages, z_a G.2.1 146 r_images), (r_Arings, z_a G.2.1 6 r_rings), (r_Astates, z_a G.2.1 36 r_states), (r_Aheld, z_a G.2.1 73 r_held), (r_Ahere, z_a G.2.2.2.2 36 r_here), (r_Athere, z_a G.2.2.2.2 36 r_there)]) rfl ?_
      cases hm
      exact z_vret C E dX6_keeps_93 ⟨rfl, rfl, h_o_r_past_2, c17, trivial⟩
    clear hm
    have L2 : ∀ (n2 : Nat) (v1_2 : Int) (r_past_2 : (Int → Int)), z_n v1_2 → z_r r_past_2 → m_X6_keeps_l2 N r_known_9 r_s n2 v1_2 r_past_2 = some (o_r_past_2) → z_J X 0 0 ([(r_o, z_o 6 [.ref r_Atext, z_i r_typed, .ref r_Atold, .ref r_Adraft, .ref r_Abegun, .ref r_As, .ref r_Apast, z_i r_known_9, .ref r_Aimages, z_i r_kept, .ref r_Arings, z_i r_rung, z_i r_at, .ref r_Astates, .ref r_Aheld, .ref r_Ahere, .ref r_Athere]), (r_Atext, z_a G.2.1 200 r_text), (r_Atold, z_a G.2.1 39 r_told), (r_Adraft, z_a G.2.1 39 r_draft), (r_Abegun, z_a G.2.1 73 r_begun), (r_As, z_a G.2.1 73 r_s), (r_Apast, z_a G.2.1 584 r_past_2), (r_Aimages, z_a G.2.1 146 r_images), (r_Arings, z_a G.2.1 6 r_rings), (r_Astates, z_a G.2.1 36 r_states), (r_Aheld, z_a G.2.1 73 r_held), (r_Ahere, z_a G.2.2.2.2 36 r_here), (r_Athere, z_a G.2.2.2.2 36 r_there)]) [(0, .ref r_o), (1, z_i v1_2)] 51 [] := by
      clear hl
      intro n2
      induction n2 with
      | zero =>
        intro v1_2 r_past_2 h_v1_2 h_r_past_2 hm
        rw [m_X6_keeps_l2] at hm
        cases hm
      | succ n2 ih2 =>
        intro v1_2 r_past_2 h_v1_2 h_r_past_2 hm
        rw [m_X6_keeps_l2] at hm
        refine z_iload_n C dX6_keeps_51 1 rfl ?_
        refine z_bipush C dX6_keeps_52 (by decide) ?_
        refine z_icmp_ge (tgt := 83) C h_v1_2 (z_k 73 rfl) dX6_keeps_54 (by decide) (fun c11 => ?_) (fun c11 => ?_)
        · have hm := z_pos c11 hm
          refine z_sub (L' := [(0, .ref r_o)]) [0] rfl ?_
          cases hm
          exact JX2 h_r_past_2
        · have hm := z_neg c11 hm
          refine z_aload_n C dX6_keeps_57 0 rfl ?_
          refine z_get C zf_X6_25 dX6_keeps_58 0 rfl rfl ?_
          refine z_bipush C dX6_keeps_61 (by decide) ?_
          refine z_aload_n C dX6_keeps_63 0 rfl ?_
          refine z_get C zf_X6_89 dX6_keeps_64 0 rfl rfl ?_
          obtain ⟨c12, hm⟩ := z_chk_some hm
          refine z_imul C dX6_keeps_67 ?_
          refine z_iload_n C dX6_keeps_68 1 rfl ?_
          obtain ⟨c13, hm⟩ := z_chk_some hm
          refine z_iadd C dX6_keeps_69 ?_
          refine z_aload_n C dX6_keeps_70 0 rfl ?_
          refine z_get C zf_X6_22 dX6_keeps_71 0 rfl rfl ?_
          refine z_iload_n C dX6_keeps_74 1 rfl ?_
          obtain ⟨c14, hm⟩ := z_chk_some hm
          refine z_iald C dX6_keeps_75 5 rfl c14 h_v1_2 ?_
          obtain ⟨c15, hm⟩ := z_chk_some hm
          refine z_iast C dX6_keeps_76 6 rfl c15 c13 (ws' := [(r_o, z_o 6 [.ref r_Atext, z_i r_typed, .ref r_Atold, .ref r_Adraft, .ref r_Abegun, .ref r_As, .ref r_Apast, z_i r_known_9, .ref r_Aimages, z_i r_kept, .ref r_Arings, z_i r_rung, z_i r_at, .ref r_Astates, .ref r_Aheld, .ref r_Ahere, .ref r_Athere]), (r_Atext, z_a G.2.1 200 r_text), (r_Atold, z_a G.2.1 39 r_told), (r_Adraft, z_a G.2.1 39 r_draft), (r_Abegun, z_a G.2.1 73 r_begun), (r_As, z_a G.2.1 73 r_s), (r_Apast, z_a G.2.1 584 (z_up r_past_2 ((73 * r_known_9) + v1_2) (r_s v1_2))), (r_Aimages, z_a G.2.1 146 r_images), (r_Arings, z_a G.2.1 6 r_rings), (r_Astates, z_a G.2.1 36 r_states), (r_Aheld, z_a G.2.1 73 r_held), (r_Ahere, z_a G.2.2.2.2 36 r_here), (r_Athere, z_a G.2.2.2.2 36 r_there)]) rfl ?_
          obtain ⟨c16, hm⟩ := z_chk_some hm
          refine z_iinc C dX6_keeps_77 1 rfl (by decide) (L' := [(1, z_i (v1_2 + 1)), (0, .ref r_o)]) rfl ?_
          refine z_goto (tgt := 51) C dX6_keeps_80 (by decide) ?_
          refine z_sub (L' := [(0, .ref r_o), (1, z_i (v1_2 + 1))]) [1, 0] rfl ?_
          exact ih2 (v1_2 + 1) (z_up r_past_2 ((73 * r_known_9) + v1_2) (r_s v1_2)) c16 (z_r_up h_r_past_2 (h_r_s _)) hm
    refine z_sub (L' := [(0, .ref r_o), (1, z_i 0)]) [1, 0] rfl ?_
    exact L2 N 0 r_past_8 (z_k 0 rfl) h_r_past_8 hl
  replace hm := hj
  clear hj
  refine z_icmp_ne (tgt := 49) C h_r_known (z_k 8 rfl) dX6_keeps_6 (by decide) (fun c1 => ?_) (fun c1 => ?_)
  · have hm := z_pos c1 hm
    cases hm
    exact J10 h_r_past h_r_known
  · have hm := z_neg c1 hm
    refine z_iconst C dX6_keeps_9 ?_
    refine z_istore_n C dX6_keeps_10 (by decide) (L' := [(1, z_i 0), (0, .ref r_o)]) rfl ?_
    obtain ⟨o_r_past_1, hl, hm⟩ := z_b1s hm
    have JX1 : z_r o_r_past_1 → z_J X 0 0 ([(r_o, z_o 6 [.ref r_Atext, z_i r_typed, .ref r_Atold, .ref r_Adraft, .ref r_Abegun, .ref r_As, .ref r_Apast, z_i r_known, .ref r_Aimages, z_i r_kept, .ref r_Arings, z_i r_rung, z_i r_at, .ref r_Astates, .ref r_Aheld, .ref r_Ahere, .ref r_Athere]), (r_Atext, z_a G.2.1 200 r_text), (r_Atold, z_a G.2.1 39 r_told), (r_Adraft, z_a G.2.1 39 r_draft), (r_Abegun, z_a G.2.1 73 r_begun), (r_As, z_a G.2.1 73 r_s), (r_Apast, z_a G.2.1 584 o_r_past_1), (r_Aimages, z_a G.2.1 146 r_images), (r_Arings, z_a G.2.1 6 r_rings), (r_Astates, z_a G.2.1 36 r_states), (r_Aheld, z_a G.2.1 73 r_held), (r_Ahere, z_a G.2.2.2.2 36 r_here), (r_Athere, z_a G.2.2.2.2 36 r_there)]) [(0, .ref r_o)] 39 [] := by
      intro h_o_r_past_1
      clear hl
      refine z_aload_n C dX6_keeps_39 0 rfl ?_
      refine z_dup C rfl dX6_keeps_40 ?_
      refine z_get C zf_X6_89 dX6_keeps_41 0 rfl rfl ?_
      refine z_iconst C dX6_keeps_44 ?_
      obtain ⟨c7, hm⟩ := z_chk_some hm
      refine z_isub C dX6_keeps_45 ?_
      refine z_puti C zf_X6_89 dX6_keeps_46 0 rfl rfl (ws' := [(r_o, z_o 6 [.ref r_Atext, z_i r_typed, .ref r_Atold, .ref r_Adraft, .ref r_Abegun, .ref r_As, .ref r_Apast, z_i (r_known - 1), .ref r_Aimages, z_i r_kept, .ref r_Arings, z_i r_rung, z_i r_at, .ref r_Astates, .ref r_Aheld, .ref r_Ahere, .ref r_Athere]), (r_Atext, z_a G.2.1 200 r_text), (r_Atold, z_a G.2.1 39 r_told), (r_Adraft, z_a G.2.1 39 r_draft), (r_Abegun, z_a G.2.1 73 r_begun), (r_As, z_a G.2.1 73 r_s), (r_Apast, z_a G.2.1 584 o_r_past_1), (r_Aimages, z_a G.2.1 146 r_images), (r_Arings, z_a G.2.1 6 r_rings), (r_Astates, z_a G.2.1 36 r_states), (r_Aheld, z_a G.2.1 73 r_held), (r_Ahere, z_a G.2.2.2.2 36 r_here), (r_Athere, z_a G.2.2.2.2 36 r_there)]) rfl ?_
      cases hm
      exact J10 h_o_r_past_1 c7
    clear hm
    have L1 : ∀ (n1 : Nat) (v1_1 : Int) (r_past_1 : (Int → Int)), z_n v1_1 → z_r r_past_1 → m_X6_keeps_l1 N n1 v1_1 r_past_1 = some (o_r_past_1) → z_J X 0 0 ([(r_o, z_o 6 [.ref r_Atext, z_i r_typed, .ref r_Atold, .ref r_Adraft, .ref r_Abegun, .ref r_As, .ref r_Apast, z_i r_known, .ref r_Aimages, z_i r_kept, .ref r_Arings, z_i r_rung, z_i r_at, .ref r_Astates, .ref r_Aheld, .ref r_Ahere, .ref r_Athere]), (r_Atext, z_a G.2.1 200 r_text), (r_Atold, z_a G.2.1 39 r_told), (r_Adraft, z_a G.2.1 39 r_draft), (r_Abegun, z_a G.2.1 73 r_begun), (r_As, z_a G.2.1 73 r_s), (r_Apast, z_a G.2.1 584 r_past_1), (r_Aimages, z_a G.2.1 146 r_images), (r_Arings, z_a G.2.1 6 r_rings), (r_Astates, z_a G.2.1 36 r_states), (r_Aheld, z_a G.2.1 73 r_held), (r_Ahere, z_a G.2.2.2.2 36 r_here), (r_Athere, z_a G.2.2.2.2 36 r_there)]) [(0, .ref r_o), (1, z_i v1_1)] 11 [] := by
      clear hl
      intro n1
      induction n1 with
      | zero =>
        intro v1_1 r_past_1 h_v1_1 h_r_past_1 hm
        rw [m_X6_keeps_l1] at hm
        cases hm
      | succ n1 ih1 =>
        intro v1_1 r_past_1 h_v1_1 h_r_past_1 hm
        rw [m_X6_keeps_l1] at hm
        refine z_iload_n C dX6_keeps_11 1 rfl ?_
        refine z_sipush C dX6_keeps_12 (by decide) ?_
        refine z_icmp_ge (tgt := 39) C h_v1_1 (z_k 511 rfl) dX6_keeps_15 (by decide) (fun c2 => ?_) (fun c2 => ?_)
        · have hm := z_pos c2 hm
          refine z_sub (L' := [(0, .ref r_o)]) [0] rfl ?_
          cases hm
          exact JX1 h_r_past_1
        · have hm := z_neg c2 hm
          refine z_aload_n C dX6_keeps_18 0 rfl ?_
          refine z_get C zf_X6_25 dX6_keeps_19 0 rfl rfl ?_
          refine z_iload_n C dX6_keeps_22 1 rfl ?_
          refine z_aload_n C dX6_keeps_23 0 rfl ?_
          refine z_get C zf_X6_25 dX6_keeps_24 0 rfl rfl ?_
          refine z_iload_n C dX6_keeps_27 1 rfl ?_
          refine z_bipush C dX6_keeps_28 (by decide) ?_
          obtain ⟨c3, hm⟩ := z_chk_some hm
          refine z_iadd C dX6_keeps_30 ?_
          obtain ⟨c4, hm⟩ := z_chk_some hm
          refine z_iald C dX6_keeps_31 6 rfl c4 c3 ?_
          obtain ⟨c5, hm⟩ := z_chk_some hm
          refine z_iast C dX6_keeps_32 6 rfl c5 h_v1_1 (ws' := [(r_o, z_o 6 [.ref r_Atext, z_i r_typed, .ref r_Atold, .ref r_Adraft, .ref r_Abegun, .ref r_As, .ref r_Apast, z_i r_known, .ref r_Aimages, z_i r_kept, .ref r_Arings, z_i r_rung, z_i r_at, .ref r_Astates, .ref r_Aheld, .ref r_Ahere, .ref r_Athere]), (r_Atext, z_a G.2.1 200 r_text), (r_Atold, z_a G.2.1 39 r_told), (r_Adraft, z_a G.2.1 39 r_draft), (r_Abegun, z_a G.2.1 73 r_begun), (r_As, z_a G.2.1 73 r_s), (r_Apast, z_a G.2.1 584 (z_up r_past_1 v1_1 (r_past_1 (v1_1 + 73)))), (r_Aimages, z_a G.2.1 146 r_images), (r_Arings, z_a G.2.1 6 r_rings), (r_Astates, z_a G.2.1 36 r_states), (r_Aheld, z_a G.2.1 73 r_held), (r_Ahere, z_a G.2.2.2.2 36 r_here), (r_Athere, z_a G.2.2.2.2 36 r_there)]) rfl ?_
          obtain ⟨c6, hm⟩ := z_chk_some hm
          refine z_iinc C dX6_keeps_33 1 rfl (by decide) (L' := [(1, z_i (v1_1 + 1)), (0, .ref r_o)]) rfl ?_
          refine z_goto (tgt := 11) C dX6_keeps_36 (by decide) ?_
          refine z_sub (L' := [(0, .ref r_o), (1, z_i (v1_1 + 1))]) [1, 0] rfl ?_
          exact ih1 (v1_1 + 1) (z_up r_past_1 v1_1 (r_past_1 (v1_1 + 73))) c6 (z_r_up h_r_past_1 (h_r_past_1 _)) hm
    refine z_sub (L' := [(0, .ref r_o), (1, z_i 0)]) [1, 0] rfl ?_
    exact L1 N 0 r_past (z_k 0 rfl) h_r_past hl
set_option maxRecDepth 100000 in
theorem k_X6_isOpen (l : Launch) (G : z_G) (N : Nat) (r_o r_Atext r_Atold r_Adraft r_Abegun r_As r_Apast r_Aimages r_Arings r_Astates r_Aheld r_Ahere r_Athere : Nat) (r_text : (Int → Int)) (r_typed : Int) (r_told : (Int → Int)) (r_draft : (Int → Int)) (r_begun : (Int → Int)) (r_s : (Int → Int)) (r_past : (Int → Int)) (r_known : Int) (r_images : (Int → Int)) (r_kept : Int) (r_rings : (Int → Int)) (r_rung : Int) (r_at : Int) (r_states : (Int → Int)) (r_held : (Int → Int)) (r_here : (Int → Int)) (r_there : (Int → Int)) (x1 : Int) (h_r_text : z_r r_text) (h_r_typed : z_n r_typed) (h_r_told : z_r r_told) (h_r_draft : z_r r_draft) (h_r_begun : z_r r_begun) (h_r_s : z_r r_s) (h_r_past : z_r r_past) (h_r_known : z_n r_known) (h_r_images : z_r r_images) (h_r_kept : z_n r_kept) (h_r_rings : z_r r_rings) (h_r_rung : z_n r_rung) (h_r_at : z_n r_at) (h_r_states : z_r r_states) (h_r_held : z_r r_held) (h_r_here : z_r r_here) (h_r_there : z_r r_there) (h_x1 : z_n x1) (rr : Int) (hm : m_X6_isOpen N r_told x1 = some (rr)) : z_M l G yX6_isOpen cX6_isOpen 2 (some .boolean) (k2_rm 0 0) [.ref r_o, z_i x1] ([(r_o, z_o 6 [.ref r_Atext, z_i r_typed, .ref r_Atold, .ref r_Adraft, .ref r_Abegun, .ref r_As, .ref r_Apast, z_i r_known, .ref r_Aimages, z_i r_kept, .ref r_Arings, z_i r_rung, z_i r_at, .ref r_Astates, .ref r_Aheld, .ref r_Ahere, .ref r_Athere]), (r_Atext, z_a G.2.1 200 r_text), (r_Atold, z_a G.2.1 39 r_told), (r_Adraft, z_a G.2.1 39 r_draft), (r_Abegun, z_a G.2.1 73 r_begun), (r_As, z_a G.2.1 73 r_s), (r_Apast, z_a G.2.1 584 r_past), (r_Aimages, z_a G.2.1 146 r_images), (r_Arings, z_a G.2.1 6 r_rings), (r_Astates, z_a G.2.1 36 r_states), (r_Aheld, z_a G.2.1 73 r_held), (r_Ahere, z_a G.2.2.2.2 36 r_here), (r_Athere, z_a G.2.2.2.2 36 r_there)]) 0 0 (fun v w => v = some (z_i rr) ∧ w = [(r_o, z_o 6 [.ref r_Atext, z_i r_typed, .ref r_Atold, .ref r_Adraft, .ref r_Abegun, .ref r_As, .ref r_Apast, z_i r_known, .ref r_Aimages, z_i r_kept, .ref r_Arings, z_i r_rung, z_i r_at, .ref r_Astates, .ref r_Aheld, .ref r_Ahere, .ref r_Athere]), (r_Atext, z_a G.2.1 200 r_text), (r_Atold, z_a G.2.1 39 r_told), (r_Adraft, z_a G.2.1 39 r_draft), (r_Abegun, z_a G.2.1 73 r_begun), (r_As, z_a G.2.1 73 r_s), (r_Apast, z_a G.2.1 584 r_past), (r_Aimages, z_a G.2.1 146 r_images), (r_Arings, z_a G.2.1 6 r_rings), (r_Astates, z_a G.2.1 36 r_states), (r_Aheld, z_a G.2.1 73 r_held), (r_Ahere, z_a G.2.2.2.2 36 r_here), (r_Athere, z_a G.2.2.2.2 36 r_there)] ∧ (rr = 0 ∨ rr = 1) ∧ True) := by
  unfold m_X6_isOpen at hm
  refine z_M.intro (by decide +kernel) (Nat.le_of_ble_eq_true rfl) (L := [(0, .ref r_o), (1, z_i x1)]) rfl (fun X C E => ?_)
  refine z_aload_n C dX6_isOpen_0 0 rfl ?_
  refine z_get C zf_X6_13 dX6_isOpen_1 0 rfl rfl ?_
  refine z_iconst C dX6_isOpen_4 ?_
  refine z_iload_n C dX6_isOpen_5 1 rfl ?_
  obtain ⟨c1, hm⟩ := z_chk_some hm
  refine z_iadd C dX6_isOpen_6 ?_
  obtain ⟨c2, hm⟩ := z_chk_some hm
  refine z_iald C dX6_isOpen_7 2 rfl c2 c1 ?_
  refine z_iconst C dX6_isOpen_8 ?_
  refine z_icmp_eq (tgt := 28) C (h_r_told _) (z_k 2 rfl) dX6_isOpen_9 (by decide) (fun c3 => ?_) (fun c3 => ?_)
  · have hm := z_pos c3 hm
    refine z_iconst C dX6_isOpen_28 ?_
    cases hm
    exact z_zret C E (Or.inl rfl) dX6_isOpen_29 ⟨rfl, rfl, (Or.inl rfl), trivial⟩
  · have hm := z_neg c3 hm
    refine z_aload_n C dX6_isOpen_12 0 rfl ?_
    refine z_get C zf_X6_13 dX6_isOpen_13 0 rfl rfl ?_
    refine z_iconst C dX6_isOpen_16 ?_
    refine z_iload_n C dX6_isOpen_17 1 rfl ?_
    obtain ⟨c4, hm⟩ := z_chk_some hm
    refine z_iadd C dX6_isOpen_18 ?_
    obtain ⟨c5, hm⟩ := z_chk_some hm
    refine z_iald C dX6_isOpen_19 2 rfl c5 c4 ?_
    refine z_iconst C dX6_isOpen_20 ?_
    refine z_icmp_eq (tgt := 28) C (h_r_told _) (z_k 3 rfl) dX6_isOpen_21 (by decide) (fun c6 => ?_) (fun c6 => ?_)
    · have hm := z_pos c6 hm
      refine z_iconst C dX6_isOpen_28 ?_
      cases hm
      exact z_zret C E (Or.inl rfl) dX6_isOpen_29 ⟨rfl, rfl, (Or.inl rfl), trivial⟩
    · have hm := z_neg c6 hm
      refine z_iconst C dX6_isOpen_24 ?_
      refine z_goto (tgt := 29) C dX6_isOpen_25 (by decide) ?_
      cases hm
      exact z_zret C E (Or.inr rfl) dX6_isOpen_29 ⟨rfl, rfl, (Or.inr rfl), trivial⟩
set_option maxRecDepth 100000 in
theorem k_X6_pours (l : Launch) (G : z_G) (N : Nat) (r_o r_Atext r_Atold r_Adraft r_Abegun r_As r_Apast r_Aimages r_Arings r_Astates r_Aheld r_Ahere r_Athere : Nat) (r_text : (Int → Int)) (r_typed : Int) (r_told : (Int → Int)) (r_draft : (Int → Int)) (r_begun : (Int → Int)) (r_s : (Int → Int)) (r_past : (Int → Int)) (r_known : Int) (r_images : (Int → Int)) (r_kept : Int) (r_rings : (Int → Int)) (r_rung : Int) (r_at : Int) (r_states : (Int → Int)) (r_held : (Int → Int)) (r_here : (Int → Int)) (r_there : (Int → Int)) (x1 : Int) (h_r_text : z_r r_text) (h_r_typed : z_n r_typed) (h_r_told : z_r r_told) (h_r_draft : z_r r_draft) (h_r_begun : z_r r_begun) (h_r_s : z_r r_s) (h_r_past : z_r r_past) (h_r_known : z_n r_known) (h_r_images : z_r r_images) (h_r_kept : z_n r_kept) (h_r_rings : z_r r_rings) (h_r_rung : z_n r_rung) (h_r_at : z_n r_at) (h_r_states : z_r r_states) (h_r_held : z_r r_held) (h_r_here : z_r r_here) (h_r_there : z_r r_there) (h_x1 : z_n x1) (q_r_s : (Int → Int)) (hm : m_X6_pours N r_told r_s x1 = some (q_r_s)) : z_M l G yX6_pours cX6_pours 3 none (k2_rm 5 117) [.ref r_o, z_i x1] ([(r_o, z_o 6 [.ref r_Atext, z_i r_typed, .ref r_Atold, .ref r_Adraft, .ref r_Abegun, .ref r_As, .ref r_Apast, z_i r_known, .ref r_Aimages, z_i r_kept, .ref r_Arings, z_i r_rung, z_i r_at, .ref r_Astates, .ref r_Aheld, .ref r_Ahere, .ref r_Athere]), (r_Atext, z_a G.2.1 200 r_text), (r_Atold, z_a G.2.1 39 r_told), (r_Adraft, z_a G.2.1 39 r_draft), (r_Abegun, z_a G.2.1 73 r_begun), (r_As, z_a G.2.1 73 r_s), (r_Apast, z_a G.2.1 584 r_past), (r_Aimages, z_a G.2.1 146 r_images), (r_Arings, z_a G.2.1 6 r_rings), (r_Astates, z_a G.2.1 36 r_states), (r_Aheld, z_a G.2.1 73 r_held), (r_Ahere, z_a G.2.2.2.2 36 r_here), (r_Athere, z_a G.2.2.2.2 36 r_there)]) 0 0 (fun v w => v = none ∧ w = [(r_o, z_o 6 [.ref r_Atext, z_i r_typed, .ref r_Atold, .ref r_Adraft, .ref r_Abegun, .ref r_As, .ref r_Apast, z_i r_known, .ref r_Aimages, z_i r_kept, .ref r_Arings, z_i r_rung, z_i r_at, .ref r_Astates, .ref r_Aheld, .ref r_Ahere, .ref r_Athere]), (r_Atext, z_a G.2.1 200 r_text), (r_Atold, z_a G.2.1 39 r_told), (r_Adraft, z_a G.2.1 39 r_draft), (r_Abegun, z_a G.2.1 73 r_begun), (r_As, z_a G.2.1 73 q_r_s), (r_Apast, z_a G.2.1 584 r_past), (r_Aimages, z_a G.2.1 146 r_images), (r_Arings, z_a G.2.1 6 r_rings), (r_Astates, z_a G.2.1 36 r_states), (r_Aheld, z_a G.2.1 73 r_held), (r_Ahere, z_a G.2.2.2.2 36 r_here), (r_Athere, z_a G.2.2.2.2 36 r_there)] ∧ z_r q_r_s ∧ True) := by
  unfold m_X6_pours at hm
  refine z_M.intro (by decide +kernel) (Nat.le_of_ble_eq_true rfl) (L := [(0, .ref r_o), (1, z_i x1)]) rfl (fun X C E => ?_)
  refine z_iconst C dX6_pours_0 ?_
  refine z_istore_n C dX6_pours_1 (by decide) (L' := [(2, z_i 0), (0, .ref r_o), (1, z_i x1)]) rfl ?_
  obtain ⟨o_r_s_1, hl, hm⟩ := z_b1s hm
  have JX1 : z_r o_r_s_1 → z_J X 0 0 ([(r_o, z_o 6 [.ref r_Atext, z_i r_typed, .ref r_Atold, .ref r_Adraft, .ref r_Abegun, .ref r_As, .ref r_Apast, z_i r_known, .ref r_Aimages, z_i r_kept, .ref r_Arings, z_i r_rung, z_i r_at, .ref r_Astates, .ref r_Aheld, .ref r_Ahere, .ref r_Athere]), (r_Atext, z_a G.2.1 200 r_text), (r_Atold, z_a G.2.1 39 r_told), (r_Adraft, z_a G.2.1 39 r_draft), (r_Abegun, z_a G.2.1 73 r_begun), (r_As, z_a G.2.1 73 o_r_s_1), (r_Apast, z_a G.2.1 584 r_past), (r_Aimages, z_a G.2.1 146 r_images), (r_Arings, z_a G.2.1 6 r_rings), (r_Astates, z_a G.2.1 36 r_states), (r_Aheld, z_a G.2.1 73 r_held), (r_Ahere, z_a G.2.2.2.2 36 r_here), (r_Athere, z_a G.2.2.2.2 36 r_there)]) [(0, .ref r_o)] 60 [] := by
    intro h_o_r_s_1
    clear hl
    refine z_aload_n C dX6_pours_60 0 rfl ?_
    obtain ⟨r_s_18, k19, hm⟩ := z_b1s hm
    refine z_callVvd C (k_X6_flows l G N r_o r_Atext r_Atold r_Adraft r_Abegun r_As r_Apast r_Aimages r_Arings r_Astates r_Aheld r_Ahere r_Athere r_text r_typed r_told r_draft r_begun o_r_s_1 r_past r_known r_images r_kept r_rings r_rung r_at r_states r_held r_here r_there h_r_text h_r_typed h_r_told h_r_draft h_r_begun h_o_r_s_1 h_r_past h_r_known h_r_images h_r_kept h_r_rings h_r_rung h_r_at h_r_states h_r_held h_r_here h_r_there r_s_18 k19) zv_X6_flows zl_X6_86 dX6_pours_61 rfl 0 rfl rfl rfl [] rfl (Nat.le_of_ble_eq_true rfl) ⟨Nat.le_of_ble_eq_true rfl, Nat.le_of_ble_eq_true rfl⟩ ⟨rfl, rfl⟩ ⟨Nat.zero_le _, Nat.zero_le _⟩ (fun hF => ?_)
    obtain ⟨h_r_s_18, -⟩ := hF
    cases hm
    exact z_vret C E dX6_pours_64 ⟨rfl, rfl, h_r_s_18, trivial⟩
  clear hm
  have L1 : ∀ (n1 : Nat) (v2_1 : Int) (r_s_1 : (Int → Int)), z_n v2_1 → z_r r_s_1 → m_X6_pours_l1 N r_told x1 n1 v2_1 r_s_1 = some (o_r_s_1) → z_J X 0 0 ([(r_o, z_o 6 [.ref r_Atext, z_i r_typed, .ref r_Atold, .ref r_Adraft, .ref r_Abegun, .ref r_As, .ref r_Apast, z_i r_known, .ref r_Aimages, z_i r_kept, .ref r_Arings, z_i r_rung, z_i r_at, .ref r_Astates, .ref r_Aheld, .ref r_Ahere, .ref r_Athere]), (r_Atext, z_a G.2.1 200 r_text), (r_Atold, z_a G.2.1 39 r_told), (r_Adraft, z_a G.2.1 39 r_draft), (r_Abegun, z_a G.2.1 73 r_begun), (r_As, z_a G.2.1 73 r_s_1), (r_Apast, z_a G.2.1 584 r_past), (r_Aimages, z_a G.2.1 146 r_images), (r_Arings, z_a G.2.1 6 r_rings), (r_Astates, z_a G.2.1 36 r_states), (r_Aheld, z_a G.2.1 73 r_held), (r_Ahere, z_a G.2.2.2.2 36 r_here), (r_Athere, z_a G.2.2.2.2 36 r_there)]) [(0, .ref r_o), (1, z_i x1), (2, z_i v2_1)] 2 [] := by
    clear hl
    intro n1
    induction n1 with
    | zero =>
      intro v2_1 r_s_1 h_v2_1 h_r_s_1 hm
      rw [m_X6_pours_l1] at hm
      cases hm
    | succ n1 ih1 =>
      intro v2_1 r_s_1 h_v2_1 h_r_s_1 hm
      rw [m_X6_pours_l1] at hm
      refine z_iload_n C dX6_pours_2 2 rfl ?_
      refine z_aload_n C dX6_pours_3 0 rfl ?_
      obtain ⟨r1, k2, hm⟩ := z_b1s hm
      refine z_callVid C (k_X6_cells l G N r_o r_Atext r_Atold r_Adraft r_Abegun r_As r_Apast r_Aimages r_Arings r_Astates r_Aheld r_Ahere r_Athere r_text r_typed r_told r_draft r_begun r_s_1 r_past r_known r_images r_kept r_rings r_rung r_at r_states r_held r_here r_there h_r_text h_r_typed h_r_told h_r_draft h_r_begun h_r_s_1 h_r_past h_r_known h_r_images h_r_kept h_r_rings h_r_rung h_r_at h_r_states h_r_held h_r_here h_r_there r1 k2) zv_X6_cells zl_X6_53 dX6_pours_4 rfl 0 rfl rfl rfl [z_i v2_1] rfl (Nat.le_of_ble_eq_true rfl) ⟨Nat.le_of_ble_eq_true rfl, Nat.le_of_ble_eq_true rfl⟩ ⟨rfl, rfl⟩ ⟨Nat.zero_le _, Nat.zero_le _⟩ (fun hF => ?_)
      obtain ⟨h_r1, -⟩ := hF
      refine z_icmp_ge (tgt := 60) C h_v2_1 h_r1 dX6_pours_7 (by decide) (fun c3 => ?_) (fun c3 => ?_)
      · have hm := z_pos c3 hm
        refine z_sub (L' := [(0, .ref r_o)]) [0] rfl ?_
        cases hm
        exact JX1 h_r_s_1
      · have hm := z_neg c3 hm
        refine z_aload_n C dX6_pours_10 0 rfl ?_
        refine z_get C zf_X6_22 dX6_pours_11 0 rfl rfl ?_
        refine z_iload_n C dX6_pours_14 2 rfl ?_
        refine z_aload_n C dX6_pours_15 0 rfl ?_
        refine z_iload_n C dX6_pours_16 2 rfl ?_
        obtain ⟨r4, k5, hm⟩ := z_b1s hm
        refine z_callVid C (k_X6_isOpen l G N r_o r_Atext r_Atold r_Adraft r_Abegun r_As r_Apast r_Aimages r_Arings r_Astates r_Aheld r_Ahere r_Athere r_text r_typed r_told r_draft r_begun r_s_1 r_past r_known r_images r_kept r_rings r_rung r_at r_states r_held r_here r_there v2_1 h_r_text h_r_typed h_r_told h_r_draft h_r_begun h_r_s_1 h_r_past h_r_known h_r_images h_r_kept h_r_rings h_r_rung h_r_at h_r_states h_r_held h_r_here h_r_there h_v2_1 r4 k5) zv_X6_isOpen zl_X6_115 dX6_pours_17 rfl 0 rfl rfl rfl [z_i v2_1, .ref r_As] rfl (Nat.le_of_ble_eq_true rfl) ⟨Nat.le_of_ble_eq_true rfl, Nat.le_of_ble_eq_true rfl⟩ ⟨rfl, rfl⟩ ⟨Nat.zero_le _, Nat.zero_le _⟩ (fun hF => ?_)
        obtain ⟨hb_r4, -⟩ := hF
        refine z_if_ne (tgt := 27) C (z_n01 hb_r4) dX6_pours_20 (by decide) (fun c6 => ?_) (fun c6 => ?_)
        · have hm := z_pos c6 hm
          refine z_aload_n C dX6_pours_27 0 rfl ?_
          refine z_get C zf_X6_22 dX6_pours_28 0 rfl rfl ?_
          refine z_iload_n C dX6_pours_31 2 rfl ?_
          obtain ⟨c7, hm⟩ := z_chk_some hm
          refine z_iald C dX6_pours_32 5 rfl c7 h_v2_1 ?_
          refine z_iload_n C dX6_pours_33 1 rfl ?_
          obtain ⟨c8, hm⟩ := z_chk_some hm
          refine z_iadd C dX6_pours_34 ?_
          refine z_bipush C dX6_pours_35 (by decide) ?_
          refine z_icmp_le (tgt := 45) C c8 (z_k 60 rfl) dX6_pours_37 (by decide) (fun c9 => ?_) (fun c9 => ?_)
          · have hm := z_pos c9 hm
            refine z_aload_n C dX6_pours_45 0 rfl ?_
            refine z_get C zf_X6_22 dX6_pours_46 0 rfl rfl ?_
            refine z_iload_n C dX6_pours_49 2 rfl ?_
            obtain ⟨c10, hm⟩ := z_chk_some hm
            refine z_iald C dX6_pours_50 5 rfl c10 h_v2_1 ?_
            refine z_iload_n C dX6_pours_51 1 rfl ?_
            obtain ⟨c11, hm⟩ := z_chk_some hm
            refine z_iadd C dX6_pours_52 ?_
            obtain ⟨c12, hm⟩ := z_chk_some hm
            refine z_iast C dX6_pours_53 5 rfl c12 h_v2_1 (ws' := [(r_o, z_o 6 [.ref r_Atext, z_i r_typed, .ref r_Atold, .ref r_Adraft, .ref r_Abegun, .ref r_As, .ref r_Apast, z_i r_known, .ref r_Aimages, z_i r_kept, .ref r_Arings, z_i r_rung, z_i r_at, .ref r_Astates, .ref r_Aheld, .ref r_Ahere, .ref r_Athere]), (r_Atext, z_a G.2.1 200 r_text), (r_Atold, z_a G.2.1 39 r_told), (r_Adraft, z_a G.2.1 39 r_draft), (r_Abegun, z_a G.2.1 73 r_begun), (r_As, z_a G.2.1 73 (z_up r_s_1 v2_1 ((r_s_1 v2_1) + x1))), (r_Apast, z_a G.2.1 584 r_past), (r_Aimages, z_a G.2.1 146 r_images), (r_Arings, z_a G.2.1 6 r_rings), (r_Astates, z_a G.2.1 36 r_states), (r_Aheld, z_a G.2.1 73 r_held), (r_Ahere, z_a G.2.2.2.2 36 r_here), (r_Athere, z_a G.2.2.2.2 36 r_there)]) rfl ?_
            obtain ⟨c13, hm⟩ := z_chk_some hm
            refine z_iinc C dX6_pours_54 2 rfl (by decide) (L' := [(2, z_i (v2_1 + 1)), (0, .ref r_o), (1, z_i x1)]) rfl ?_
            refine z_goto (tgt := 2) C dX6_pours_57 (by decide) ?_
            refine z_sub (L' := [(0, .ref r_o), (1, z_i x1), (2, z_i (v2_1 + 1))]) [1, 2, 0] rfl ?_
            exact ih1 (v2_1 + 1) (z_up r_s_1 v2_1 ((r_s_1 v2_1) + x1)) c13 (z_r_up h_r_s_1 c11) hm
          · have hm := z_neg c9 hm
            refine z_bipush C dX6_pours_40 (by decide) ?_
            refine z_goto (tgt := 53) C dX6_pours_42 (by decide) ?_
            obtain ⟨c14, hm⟩ := z_chk_some hm
            refine z_iast C dX6_pours_53 5 rfl c14 h_v2_1 (ws' := [(r_o, z_o 6 [.ref r_Atext, z_i r_typed, .ref r_Atold, .ref r_Adraft, .ref r_Abegun, .ref r_As, .ref r_Apast, z_i r_known, .ref r_Aimages, z_i r_kept, .ref r_Arings, z_i r_rung, z_i r_at, .ref r_Astates, .ref r_Aheld, .ref r_Ahere, .ref r_Athere]), (r_Atext, z_a G.2.1 200 r_text), (r_Atold, z_a G.2.1 39 r_told), (r_Adraft, z_a G.2.1 39 r_draft), (r_Abegun, z_a G.2.1 73 r_begun), (r_As, z_a G.2.1 73 (z_up r_s_1 v2_1 60)), (r_Apast, z_a G.2.1 584 r_past), (r_Aimages, z_a G.2.1 146 r_images), (r_Arings, z_a G.2.1 6 r_rings), (r_Astates, z_a G.2.1 36 r_states), (r_Aheld, z_a G.2.1 73 r_held), (r_Ahere, z_a G.2.2.2.2 36 r_here), (r_Athere, z_a G.2.2.2.2 36 r_there)]) rfl ?_
            obtain ⟨c15, hm⟩ := z_chk_some hm
            refine z_iinc C dX6_pours_54 2 rfl (by decide) (L' := [(2, z_i (v2_1 + 1)), (0, .ref r_o), (1, z_i x1)]) rfl ?_
            refine z_goto (tgt := 2) C dX6_pours_57 (by decide) ?_
            refine z_sub (L' := [(0, .ref r_o), (1, z_i x1), (2, z_i (v2_1 + 1))]) [1, 2, 0] rfl ?_
            exact ih1 (v2_1 + 1) (z_up r_s_1 v2_1 60) c15 (z_r_up h_r_s_1 (z_k 60 rfl)) hm
        · have hm := z_neg c6 hm
          refine z_iconst C dX6_pours_23 ?_
          refine z_goto (tgt := 53) C dX6_pours_24 (by decide) ?_
          obtain ⟨c16, hm⟩ := z_chk_some hm
          refine z_iast C dX6_pours_53 5 rfl c16 h_v2_1 (ws' := [(r_o, z_o 6 [.ref r_Atext, z_i r_typed, .ref r_Atold, .ref r_Adraft, .ref r_Abegun, .ref r_As, .ref r_Apast, z_i r_known, .ref r_Aimages, z_i r_kept, .ref r_Arings, z_i r_rung, z_i r_at, .ref r_Astates, .ref r_Aheld, .ref r_Ahere, .ref r_Athere]), (r_Atext, z_a G.2.1 200 r_text), (r_Atold, z_a G.2.1 39 r_told), (r_Adraft, z_a G.2.1 39 r_draft), (r_Abegun, z_a G.2.1 73 r_begun), (r_As, z_a G.2.1 73 (z_up r_s_1 v2_1 0)), (r_Apast, z_a G.2.1 584 r_past), (r_Aimages, z_a G.2.1 146 r_images), (r_Arings, z_a G.2.1 6 r_rings), (r_Astates, z_a G.2.1 36 r_states), (r_Aheld, z_a G.2.1 73 r_held), (r_Ahere, z_a G.2.2.2.2 36 r_here), (r_Athere, z_a G.2.2.2.2 36 r_there)]) rfl ?_
          obtain ⟨c17, hm⟩ := z_chk_some hm
          refine z_iinc C dX6_pours_54 2 rfl (by decide) (L' := [(2, z_i (v2_1 + 1)), (0, .ref r_o), (1, z_i x1)]) rfl ?_
          refine z_goto (tgt := 2) C dX6_pours_57 (by decide) ?_
          refine z_sub (L' := [(0, .ref r_o), (1, z_i x1), (2, z_i (v2_1 + 1))]) [1, 2, 0] rfl ?_
          exact ih1 (v2_1 + 1) (z_up r_s_1 v2_1 0) c17 (z_r_up h_r_s_1 (z_k 0 rfl)) hm
  refine z_sub (L' := [(0, .ref r_o), (1, z_i x1), (2, z_i 0)]) [1, 2, 0] rfl ?_
  exact L1 N 0 r_s (z_k 0 rfl) h_r_s hl
set_option maxRecDepth 100000 in
theorem k_X6_all (l : Launch) (G : z_G) (N : Nat) (r_o r_Atext r_Atold r_Adraft r_Abegun r_As r_Apast r_Aimages r_Arings r_Astates r_Aheld r_Ahere r_Athere : Nat) (r_text : (Int → Int)) (r_typed : Int) (r_told : (Int → Int)) (r_draft : (Int → Int)) (r_begun : (Int → Int)) (r_s : (Int → Int)) (r_past : (Int → Int)) (r_known : Int) (r_images : (Int → Int)) (r_kept : Int) (r_rings : (Int → Int)) (r_rung : Int) (r_at : Int) (r_states : (Int → Int)) (r_held : (Int → Int)) (r_here : (Int → Int)) (r_there : (Int → Int)) (h_r_text : z_r r_text) (h_r_typed : z_n r_typed) (h_r_told : z_r r_told) (h_r_draft : z_r r_draft) (h_r_begun : z_r r_begun) (h_r_s : z_r r_s) (h_r_past : z_r r_past) (h_r_known : z_n r_known) (h_r_images : z_r r_images) (h_r_kept : z_n r_kept) (h_r_rings : z_r r_rings) (h_r_rung : z_n r_rung) (h_r_at : z_n r_at) (h_r_states : z_r r_states) (h_r_held : z_r r_held) (h_r_here : z_r r_here) (h_r_there : z_r r_there) (rr : Int) (hm : m_X6_all N r_told r_s = some (rr)) : z_M l G yX6_all cX6_all 3 (some .int) (k2_rm 1 20) [.ref r_o] ([(r_o, z_o 6 [.ref r_Atext, z_i r_typed, .ref r_Atold, .ref r_Adraft, .ref r_Abegun, .ref r_As, .ref r_Apast, z_i r_known, .ref r_Aimages, z_i r_kept, .ref r_Arings, z_i r_rung, z_i r_at, .ref r_Astates, .ref r_Aheld, .ref r_Ahere, .ref r_Athere]), (r_Atext, z_a G.2.1 200 r_text), (r_Atold, z_a G.2.1 39 r_told), (r_Adraft, z_a G.2.1 39 r_draft), (r_Abegun, z_a G.2.1 73 r_begun), (r_As, z_a G.2.1 73 r_s), (r_Apast, z_a G.2.1 584 r_past), (r_Aimages, z_a G.2.1 146 r_images), (r_Arings, z_a G.2.1 6 r_rings), (r_Astates, z_a G.2.1 36 r_states), (r_Aheld, z_a G.2.1 73 r_held), (r_Ahere, z_a G.2.2.2.2 36 r_here), (r_Athere, z_a G.2.2.2.2 36 r_there)]) 0 0 (fun v w => v = some (z_i rr) ∧ w = [(r_o, z_o 6 [.ref r_Atext, z_i r_typed, .ref r_Atold, .ref r_Adraft, .ref r_Abegun, .ref r_As, .ref r_Apast, z_i r_known, .ref r_Aimages, z_i r_kept, .ref r_Arings, z_i r_rung, z_i r_at, .ref r_Astates, .ref r_Aheld, .ref r_Ahere, .ref r_Athere]), (r_Atext, z_a G.2.1 200 r_text), (r_Atold, z_a G.2.1 39 r_told), (r_Adraft, z_a G.2.1 39 r_draft), (r_Abegun, z_a G.2.1 73 r_begun), (r_As, z_a G.2.1 73 r_s), (r_Apast, z_a G.2.1 584 r_past), (r_Aimages, z_a G.2.1 146 r_images), (r_Arings, z_a G.2.1 6 r_rings), (r_Astates, z_a G.2.1 36 r_states), (r_Aheld, z_a G.2.1 73 r_held), (r_Ahere, z_a G.2.2.2.2 36 r_here), (r_Athere, z_a G.2.2.2.2 36 r_there)] ∧ z_n rr ∧ True) := by
  unfold m_X6_all at hm
  refine z_M.intro (by decide +kernel) (Nat.le_of_ble_eq_true rfl) (L := [(0, .ref r_o)]) rfl (fun X C E => ?_)
  refine z_iconst C dX6_all_0 ?_
  refine z_istore_n C dX6_all_1 (by decide) (L' := [(1, z_i 0), (0, .ref r_o)]) rfl ?_
  refine z_iconst C dX6_all_2 ?_
  refine z_istore_n C dX6_all_3 (by decide) (L' := [(2, z_i 0), (1, z_i 0), (0, .ref r_o)]) rfl ?_
  obtain ⟨o1_1, hl, hm⟩ := z_b1s hm
  have JX1 : z_n o1_1 → z_J X 0 0 ([(r_o, z_o 6 [.ref r_Atext, z_i r_typed, .ref r_Atold, .ref r_Adraft, .ref r_Abegun, .ref r_As, .ref r_Apast, z_i r_known, .ref r_Aimages, z_i r_kept, .ref r_Arings, z_i r_rung, z_i r_at, .ref r_Astates, .ref r_Aheld, .ref r_Ahere, .ref r_Athere]), (r_Atext, z_a G.2.1 200 r_text), (r_Atold, z_a G.2.1 39 r_told), (r_Adraft, z_a G.2.1 39 r_draft), (r_Abegun, z_a G.2.1 73 r_begun), (r_As, z_a G.2.1 73 r_s), (r_Apast, z_a G.2.1 584 r_past), (r_Aimages, z_a G.2.1 146 r_images), (r_Arings, z_a G.2.1 6 r_rings), (r_Astates, z_a G.2.1 36 r_states), (r_Aheld, z_a G.2.1 73 r_held), (r_Ahere, z_a G.2.2.2.2 36 r_here), (r_Athere, z_a G.2.2.2.2 36 r_there)]) [(1, z_i o1_1)] 27 [] := by
    intro h_o1_1
    clear hl
    refine z_iload_n C dX6_all_27 0 rfl ?_
    cases hm
    exact z_iret C E dX6_all_28 ⟨rfl, rfl, h_o1_1, trivial⟩
  clear hm
  have L1 : ∀ (n1 : Nat) (v1_1 : Int) (v2_1 : Int), z_n v1_1 → z_n v2_1 → m_X6_all_l1 N r_told r_s n1 v1_1 v2_1 = some (o1_1) → z_J X 0 0 ([(r_o, z_o 6 [.ref r_Atext, z_i r_typed, .ref r_Atold, .ref r_Adraft, .ref r_Abegun, .ref r_As, .ref r_Apast, z_i r_known, .ref r_Aimages, z_i r_kept, .ref r_Arings, z_i r_rung, z_i r_at, .ref r_Astates, .ref r_Aheld, .ref r_Ahere, .ref r_Athere]), (r_Atext, z_a G.2.1 200 r_text), (r_Atold, z_a G.2.1 39 r_told), (r_Adraft, z_a G.2.1 39 r_draft), (r_Abegun, z_a G.2.1 73 r_begun), (r_As, z_a G.2.1 73 r_s), (r_Apast, z_a G.2.1 584 r_past), (r_Aimages, z_a G.2.1 146 r_images), (r_Arings, z_a G.2.1 6 r_rings), (r_Astates, z_a G.2.1 36 r_states), (r_Aheld, z_a G.2.1 73 r_held), (r_Ahere, z_a G.2.2.2.2 36 r_here), (r_Athere, z_a G.2.2.2.2 36 r_there)]) [(0, .ref r_o), (1, z_i v1_1), (2, z_i v2_1)] 4 [] := by
    clear hl
    intro n1
    induction n1 with
    | zero =>
      intro v1_1 v2_1 h_v1_1 h_v2_1 hm
      rw [m_X6_all_l1] at hm
      cases hm
    | succ n1 ih1 =>
      intro v1_1 v2_1 h_v1_1 h_v2_1 hm
      rw [m_X6_all_l1] at hm
      refine z_iload_n C dX6_all_4 2 rfl ?_
      refine z_aload_n C dX6_all_5 0 rfl ?_
      obtain ⟨r1, k2, hm⟩ := z_b1s hm
      refine z_callVid C (k_X6_cells l G N r_o r_Atext r_Atold r_Adraft r_Abegun r_As r_Apast r_Aimages r_Arings r_Astates r_Aheld r_Ahere r_Athere r_text r_typed r_told r_draft r_begun r_s r_past r_known r_images r_kept r_rings r_rung r_at r_states r_held r_here r_there h_r_text h_r_typed h_r_told h_r_draft h_r_begun h_r_s h_r_past h_r_known h_r_images h_r_kept h_r_rings h_r_rung h_r_at h_r_states h_r_held h_r_here h_r_there r1 k2) zv_X6_cells zl_X6_53 dX6_all_6 rfl 0 rfl rfl rfl [z_i v2_1] rfl (Nat.le_of_ble_eq_true rfl) ⟨Nat.le_of_ble_eq_true rfl, Nat.le_of_ble_eq_true rfl⟩ ⟨rfl, rfl⟩ ⟨Nat.zero_le _, Nat.zero_le _⟩ (fun hF => ?_)
      obtain ⟨h_r1, -⟩ := hF
      refine z_icmp_ge (tgt := 27) C h_v2_1 h_r1 dX6_all_9 (by decide) (fun c3 => ?_) (fun c3 => ?_)
      · have hm := z_pos c3 hm
        refine z_sub (L' := [(1, z_i v1_1)]) [1] rfl ?_
        cases hm
        exact JX1 h_v1_1
      · have hm := z_neg c3 hm
        refine z_iload_n C dX6_all_12 1 rfl ?_
        refine z_aload_n C dX6_all_13 0 rfl ?_
        refine z_get C zf_X6_22 dX6_all_14 0 rfl rfl ?_
        refine z_iload_n C dX6_all_17 2 rfl ?_
        obtain ⟨c4, hm⟩ := z_chk_some hm
        refine z_iald C dX6_all_18 5 rfl c4 h_v2_1 ?_
        obtain ⟨c5, hm⟩ := z_chk_some hm
        refine z_iadd C dX6_all_19 ?_
        refine z_istore_n C dX6_all_20 (by decide) (L' := [(1, z_i (v1_1 + (r_s v2_1))), (0, .ref r_o), (2, z_i v2_1)]) rfl ?_
        obtain ⟨c6, hm⟩ := z_chk_some hm
        refine z_iinc C dX6_all_21 2 rfl (by decide) (L' := [(2, z_i (v2_1 + 1)), (1, z_i (v1_1 + (r_s v2_1))), (0, .ref r_o)]) rfl ?_
        refine z_goto (tgt := 4) C dX6_all_24 (by decide) ?_
        refine z_sub (L' := [(0, .ref r_o), (1, z_i (v1_1 + (r_s v2_1))), (2, z_i (v2_1 + 1))]) [2, 1, 0] rfl ?_
        exact ih1 (v1_1 + (r_s v2_1)) (v2_1 + 1) c5 c6 hm
  refine z_sub (L' := [(0, .ref r_o), (1, z_i 0), (2, z_i 0)]) [2, 1, 0] rfl ?_
  exact L1 N 0 0 (z_k 0 rfl) (z_k 0 rfl) hl
