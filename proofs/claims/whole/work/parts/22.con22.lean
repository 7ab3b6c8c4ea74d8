set_option maxRecDepth 100000 in
theorem k_X6_stone (l : Launch) (G : z_G) (N : Nat) (r_o r_Atext r_Atold r_Adraft r_Abegun r_As r_Apast r_Aimages r_Arings r_Astates r_Aheld r_Ahere r_Athere : Nat) (r_text : (Int → Int)) (r_typed : Int) (r_told : (Int → Int)) (r_draft : (Int → Int)) (r_begun : (Int → Int)) (r_s : (Int → Int)) (r_past : (Int → Int)) (r_known : Int) (r_images : (Int → Int)) (r_kept : Int) (r_rings : (Int → Int)) (r_rung : Int) (r_at : Int) (r_states : (Int → Int)) (r_held : (Int → Int)) (r_here : (Int → Int)) (r_there : (Int → Int)) (x1 : Int) (x2 : Int) (h_r_text : z_r r_text) (h_r_typed : z_n r_typed) (h_r_told : z_r r_told) (h_r_draft : z_r r_draft) (h_r_begun : z_r r_begun) (h_r_s : z_r r_s) (h_r_past : z_r r_past) (h_r_known : z_n r_known) (h_r_images : z_r r_images) (h_r_kept : z_n r_kept) (h_r_rings : z_r r_rings) (h_r_rung : z_n r_rung) (h_r_at : z_n r_at) (h_r_states : z_r r_states) (h_r_held : z_r r_held) (h_r_here : z_r r_here) (h_r_there : z_r r_there) (h_x1 : z_n x1) (h_x2 : z_n x2) (rr : Int) (q_r_s : (Int → Int)) (q_r_past : (Int → Int)) (q_r_known : Int) (hm : m_X6_stone N r_told r_s r_past r_known x1 x2 = some (rr, q_r_s, q_r_past, q_r_known)) : z_M l G yX6_stone cX6_stone 3 (some .int) (k2_rm 5 117) [.ref r_o, z_i x1, z_i x2] ([(r_o, z_o 6 [.ref r_Atext, z_i r_typed, .ref r_Atold, .ref r_Adraft, .ref r_Abegun, .ref r_As, .ref r_Apast, z_i r_known, .ref r_Aimages, z_i r_kept, .ref r_Arings, z_i r_rung, z_i r_at, .ref r_Astates, .ref r_Aheld, .ref r_Ahere, .ref r_Athere]), (r_Atext, z_a G.2.1 200 r_text), (r_Atold, z_a G.2.1 39 r_told), (r_Adraft, z_a G.2.1 39 r_draft), (r_Abegun, z_a G.2.1 73 r_begun), (r_As, z_a G.2.1 73 r_s), (r_Apast, z_a G.2.1 584 r_past), (r_Aimages, z_a G.2.1 146 r_images), (r_Arings, z_a G.2.1 6 r_rings), (r_Astates, z_a G.2.1 36 r_states), (r_Aheld, z_a G.2.1 73 r_held), (r_Ahere, z_a G.2.2.2.2 36 r_here), (r_Athere, z_a G.2.2.2.2 36 r_there)]) 0 0 (fun v w => v = some (z_i rr) ∧ w = [(r_o, z_o 6 [.ref r_Atext, z_i r_typed, .ref r_Atold, .ref r_Adraft, .ref r_Abegun, .ref r_As, .ref r_Apast, z_i q_r_known, .ref r_Aimages, z_i r_kept, .ref r_Arings, z_i r_rung, z_i r_at, .ref r_Astates, .ref r_Aheld, .ref r_Ahere, .ref r_Athere]), (r_Atext, z_a G.2.1 200 r_text), (r_Atold, z_a G.2.1 39 r_told), (r_Adraft, z_a G.2.1 39 r_draft), (r_Abegun, z_a G.2.1 73 r_begun), (r_As, z_a G.2.1 73 q_r_s), (r_Apast, z_a G.2.1 584 q_r_past), (r_Aimages, z_a G.2.1 146 r_images), (r_Arings, z_a G.2.1 6 r_rings), (r_Astates, z_a G.2.1 36 r_states), (r_Aheld, z_a G.2.1 73 r_held), (r_Ahere, z_a G.2.2.2.2 36 r_here), (r_Athere, z_a G.2.2.2.2 36 r_there)] ∧ z_n rr ∧ z_r q_r_s ∧ z_r q_r_past ∧ z_n q_r_known ∧ True) := by
  unfold m_X6_stone at hm
  refine z_M.intro (by decide +kernel) (Nat.le_of_ble_eq_true rfl) (L := [(0, .ref r_o), (1, z_i x1), (2, z_i x2)]) rfl (fun X C E => ?_)
  refine z_aload_n C dX6_stone_0 0 rfl ?_
  refine z_iload_n C dX6_stone_1 1 rfl ?_
  obtain ⟨r1, k2, hm⟩ := z_b1s hm
  refine z_callVid C (k_X6_isCell l G N r_o r_Atext r_Atold r_Adraft r_Abegun r_As r_Apast r_Aimages r_Arings r_Astates r_Aheld r_Ahere r_Athere r_text r_typed r_told r_draft r_begun r_s r_past r_known r_images r_kept r_rings r_rung r_at r_states r_held r_here r_there x1 h_r_text h_r_typed h_r_told h_r_draft h_r_begun h_r_s h_r_past h_r_known h_r_images h_r_kept h_r_rings h_r_rung h_r_at h_r_states h_r_held h_r_here h_r_there h_x1 r1 k2) zv_X6_isCell zl_X6_98 dX6_stone_2 rfl 0 rfl rfl rfl [] rfl (Nat.le_of_ble_eq_true rfl) ⟨Nat.le_of_ble_eq_true rfl, Nat.le_of_ble_eq_true rfl⟩ ⟨rfl, rfl⟩ ⟨Nat.zero_le _, Nat.zero_le _⟩ (fun hF => ?_)
  obtain ⟨hb_r1, -⟩ := hF
  refine z_if_ne (tgt := 10) C (z_n01 hb_r1) dX6_stone_5 (by decide) (fun c3 => ?_) (fun c3 => ?_)
  · have hm := z_pos c3 hm
    refine z_aload_n C dX6_stone_10 0 rfl ?_
    refine z_iload_n C dX6_stone_11 1 rfl ?_
    obtain ⟨r4, k5, hm⟩ := z_b1s hm
    refine z_callVid C (k_X6_isOpen l G N r_o r_Atext r_Atold r_Adraft r_Abegun r_As r_Apast r_Aimages r_Arings r_Astates r_Aheld r_Ahere r_Athere r_text r_typed r_told r_draft r_begun r_s r_past r_known r_images r_kept r_rings r_rung r_at r_states r_held r_here r_there x1 h_r_text h_r_typed h_r_told h_r_draft h_r_begun h_r_s h_r_past h_r_known h_r_images h_r_kept h_r_rings h_r_rung h_r_at h_r_states h_r_held h_r_here h_r_there h_x1 r4 k5) zv_X6_isOpen zl_X6_115 dX6_stone_12 rfl 0 rfl rfl rfl [] rfl (Nat.le_of_ble_eq_true rfl) ⟨Nat.le_of_ble_eq_true rfl, Nat.le_of_ble_eq_true rfl⟩ ⟨rfl, rfl⟩ ⟨Nat.zero_le _, Nat.zero_le _⟩ (fun hF => ?_)
    obtain ⟨hb_r4, -⟩ := hF
    refine z_if_eq (tgt := 40) C (z_n01 hb_r4) dX6_stone_15 (by decide) (fun c6 => ?_) (fun c6 => ?_)
    · have hm := z_pos c6 hm
      refine z_bipush C dX6_stone_40 (by decide) ?_
      cases hm
      exact z_iret C E dX6_stone_42 ⟨rfl, rfl, (z_k (-2) rfl), h_r_s, h_r_past, h_r_known, trivial⟩
    · have hm := z_neg c6 hm
      refine z_aload_n C dX6_stone_18 0 rfl ?_
      refine z_get C zf_X6_22 dX6_stone_19 0 rfl rfl ?_
      refine z_bipush C dX6_stone_22 (by decide) ?_
      refine z_iload_n C dX6_stone_24 1 rfl ?_
      obtain ⟨c7, hm⟩ := z_chk_some hm
      refine z_iadd C dX6_stone_25 ?_
      obtain ⟨c8, hm⟩ := z_chk_some hm
      refine z_iald C dX6_stone_26 5 rfl c8 c7 ?_
      refine z_iload_n C dX6_stone_27 2 rfl ?_
      obtain ⟨s10, hj, hm⟩ := z_b1s hm
      have J11 : z_n s10 → z_J X 0 0 ([(r_o, z_o 6 [.ref r_Atext, z_i r_typed, .ref r_Atold, .ref r_Adraft, .ref r_Abegun, .ref r_As, .ref r_Apast, z_i r_known, .ref r_Aimages, z_i r_kept, .ref r_Arings, z_i r_rung, z_i r_at, .ref r_Astates, .ref r_Aheld, .ref r_Ahere, .ref r_Athere]), (r_Atext, z_a G.2.1 200 r_text), (r_Atold, z_a G.2.1 39 r_told), (r_Adraft, z_a G.2.1 39 r_draft), (r_Abegun, z_a G.2.1 73 r_begun), (r_As, z_a G.2.1 73 r_s), (r_Apast, z_a G.2.1 584 r_past), (r_Aimages, z_a G.2.1 146 r_images), (r_Arings, z_a G.2.1 6 r_rings), (r_Astates, z_a G.2.1 36 r_states), (r_Aheld, z_a G.2.1 73 r_held), (r_Ahere, z_a G.2.2.2.2 36 r_here), (r_Athere, z_a G.2.2.2.2 36 r_there)]) [(0, .ref r_o), (1, z_i x1), (2, z_i x2)] 37 [z_i s10, z_i (r_s (36 + x1))] := by
        intro h_s10
        clear hj
        refine z_icmp_ne (tgt := 43) C (h_r_s _) h_s10 dX6_stone_37 (by decide) (fun c12 => ?_) (fun c12 => ?_)
        · have hm := z_pos c12 hm
          refine z_aload_n C dX6_stone_43 0 rfl ?_
          obtain ⟨r_past_13, r_known_14, k15, hm⟩ := z_b2s hm
          refine z_callVvd C (k_X6_keeps l G N r_o r_Atext r_Atold r_Adraft r_Abegun r_As r_Apast r_Aimages r_Arings r_Astates r_Aheld r_Ahere r_Athere r_text r_typed r_told r_draft r_begun r_s r_past r_known r_images r_kept r_rings r_rung r_at r_states r_held r_here r_there h_r_text h_r_typed h_r_told h_r_draft h_r_begun h_r_s h_r_past h_r_known h_r_images h_r_kept h_r_rings h_r_rung h_r_at h_r_states h_r_held h_r_here h_r_there r_past_13 r_known_14 k15) zv_X6_keeps zl_X6_124 dX6_stone_44 rfl 0 rfl rfl rfl [] rfl (Nat.le_of_ble_eq_true rfl) ⟨Nat.le_of_ble_eq_true rfl, Nat.le_of_ble_eq_true rfl⟩ ⟨rfl, rfl⟩ ⟨Nat.zero_le _, Nat.zero_le _⟩ (fun hF => ?_)
          obtain ⟨h_r_past_13, h_r_known_14, -⟩ := hF
          refine z_aload_n C dX6_stone_47 0 rfl ?_
          refine z_get C zf_X6_22 dX6_stone_48 0 rfl rfl ?_
          refine z_bipush C dX6_stone_51 (by decide) ?_
          refine z_iload_n C dX6_stone_53 1 rfl ?_
          obtain ⟨c16, hm⟩ := z_chk_some hm
          refine z_iadd C dX6_stone_54 ?_
          refine z_dup2 C rfl rfl dX6_stone_55 ?_
          obtain ⟨c17, hm⟩ := z_chk_some hm
          refine z_iald C dX6_stone_56 5 rfl c17 c16 ?_
          refine z_iload_n C dX6_stone_57 2 rfl ?_
          obtain ⟨s19, hj, hm⟩ := z_b1s hm
          have J20 : z_n s19 → z_J X 0 0 ([(r_o, z_o 6 [.ref r_Atext, z_i r_typed, .ref r_Atold, .ref r_Adraft, .ref r_Abegun, .ref r_As, .ref r_Apast, z_i r_known_14, .ref r_Aimages, z_i r_kept, .ref r_Arings, z_i r_rung, z_i r_at, .ref r_Astates, .ref r_Aheld, .ref r_Ahere, .ref r_Athere]), (r_Atext, z_a G.2.1 200 r_text), (r_Atold, z_a G.2.1 39 r_told), (r_Adraft, z_a G.2.1 39 r_draft), (r_Abegun, z_a G.2.1 73 r_begun), (r_As, z_a G.2.1 73 r_s), (r_Apast, z_a G.2.1 584 r_past_13), (r_Aimages, z_a G.2.1 146 r_images), (r_Arings, z_a G.2.1 6 r_rings), (r_Astates, z_a G.2.1 36 r_states), (r_Aheld, z_a G.2.1 73 r_held), (r_Ahere, z_a G.2.2.2.2 36 r_here), (r_Athere, z_a G.2.2.2.2 36 r_there)]) [(0, .ref r_o), (1, z_i x1)] 66 [z_i s19, z_i (r_s (36 + x1)), z_i (36 + x1), .ref r_As] := by
            intro h_s19
            clear hj
            obtain ⟨c21, hm⟩ := z_chk_some hm
            refine z_iadd C dX6_stone_66 ?_
            obtain ⟨c22, hm⟩ := z_chk_some hm
            refine z_iast C dX6_stone_67 5 rfl c22 c16 (ws' := [(r_o, z_o 6 [.ref r_Atext, z_i r_typed, .ref r_Atold, .ref r_Adraft, .ref r_Abegun, .ref r_As, .ref r_Apast, z_i r_known_14, .ref r_Aimages, z_i r_kept, .ref r_Arings, z_i r_rung, z_i r_at, .ref r_Astates, .ref r_Aheld, .ref r_Ahere, .ref r_Athere]), (r_Atext, z_a G.2.1 200 r_text), (r_Atold, z_a G.2.1 39 r_told), (r_Adraft, z_a G.2.1 39 r_draft), (r_Abegun, z_a G.2.1 73 r_begun), (r_As, z_a G.2.1 73 (z_up r_s (36 + x1) ((r_s (36 + x1)) + s19))), (r_Apast, z_a G.2.1 584 r_past_13), (r_Aimages, z_a G.2.1 146 r_images), (r_Arings, z_a G.2.1 6 r_rings), (r_Astates, z_a G.2.1 36 r_states), (r_Aheld, z_a G.2.1 73 r_held), (r_Ahere, z_a G.2.2.2.2 36 r_here), (r_Athere, z_a G.2.2.2.2 36 r_there)]) rfl ?_
            refine z_aload_n C dX6_stone_68 0 rfl ?_
            obtain ⟨r_s_23, k24, hm⟩ := z_b1s hm
            refine z_callVvd C (k_X6_flows l G N r_o r_Atext r_Atold r_Adraft r_Abegun r_As r_Apast r_Aimages r_Arings r_Astates r_Aheld r_Ahere r_Athere r_text r_typed r_told r_draft r_begun (z_up r_s (36 + x1) ((r_s (36 + x1)) + s19)) r_past_13 r_known_14 r_images r_kept r_rings r_rung r_at r_states r_held r_here r_there h_r_text h_r_typed h_r_told h_r_draft h_r_begun (z_r_up h_r_s c21) h_r_past_13 h_r_known_14 h_r_images h_r_kept h_r_rings h_r_rung h_r_at h_r_states h_r_held h_r_here h_r_there r_s_23 k24) zv_X6_flows zl_X6_86 dX6_stone_69 rfl 0 rfl rfl rfl [] rfl (Nat.le_of_ble_eq_true rfl) ⟨Nat.le_of_ble_eq_true rfl, Nat.le_of_ble_eq_true rfl⟩ ⟨rfl, rfl⟩ ⟨Nat.zero_le _, Nat.zero_le _⟩ (fun hF => ?_)
            obtain ⟨h_r_s_23, -⟩ := hF
            refine z_aload_n C dX6_stone_72 0 rfl ?_
            refine z_get C zf_X6_22 dX6_stone_73 0 rfl rfl ?_
            refine z_bipush C dX6_stone_76 (by decide) ?_
            refine z_iload_n C dX6_stone_78 1 rfl ?_
            obtain ⟨c25, hm⟩ := z_chk_some hm
            refine z_iadd C dX6_stone_79 ?_
            obtain ⟨c26, hm⟩ := z_chk_some hm
            refine z_iald C dX6_stone_80 5 rfl c26 c25 ?_
            cases hm
            exact z_iret C E dX6_stone_81 ⟨rfl, rfl, (h_r_s_23 _), h_r_s_23, h_r_past_13, h_r_known_14, trivial⟩
          replace hm := hj
          clear hj
          refine z_if_eq (tgt := 65) C h_x2 dX6_stone_58 (by decide) (fun c18 => ?_) (fun c18 => ?_)
          · have hm := z_pos c18 hm
            refine z_iconst C dX6_stone_65 ?_
            refine z_sub (L' := [(0, .ref r_o), (1, z_i x1)]) [0, 1] rfl ?_
            cases hm
            exact J20 (z_k 1 rfl)
          · have hm := z_neg c18 hm
            refine z_iconst C dX6_stone_61 ?_
            refine z_goto (tgt := 66) C dX6_stone_62 (by decide) ?_
            refine z_sub (L' := [(0, .ref r_o), (1, z_i x1)]) [0, 1] rfl ?_
            cases hm
            exact J20 (z_k (-1) rfl)
        · have hm := z_neg c12 hm
          refine z_bipush C dX6_stone_40 (by decide) ?_
          cases hm
          exact z_iret C E dX6_stone_42 ⟨rfl, rfl, (z_k (-2) rfl), h_r_s, h_r_past, h_r_known, trivial⟩
      replace hm := hj
      clear hj
      refine z_if_eq (tgt := 35) C h_x2 dX6_stone_28 (by decide) (fun c9 => ?_) (fun c9 => ?_)
      · have hm := z_pos c9 hm
        refine z_bipush C dX6_stone_35 (by decide) ?_
        cases hm
        exact J11 (z_k 20 rfl)
      · have hm := z_neg c9 hm
        refine z_iconst C dX6_stone_31 ?_
        refine z_goto (tgt := 37) C dX6_stone_32 (by decide) ?_
        cases hm
        exact J11 (z_k 0 rfl)
  · have hm := z_neg c3 hm
    refine z_iconst C dX6_stone_8 ?_
    cases hm
    exact z_iret C E dX6_stone_9 ⟨rfl, rfl, (z_k (-1) rfl), h_r_s, h_r_past, h_r_known, trivial⟩
set_option maxRecDepth 100000 in
theorem k_X6_undo (l : Launch) (G : z_G) (N : Nat) (r_o r_Atext r_Atold r_Adraft r_Abegun r_As r_Apast r_Aimages r_Arings r_Astates r_Aheld r_Ahere r_Athere : Nat) (r_text : (Int → Int)) (r_typed : Int) (r_told : (Int → Int)) (r_draft : (Int → Int)) (r_begun : (Int → Int)) (r_s : (Int → Int)) (r_past : (Int → Int)) (r_known : Int) (r_images : (Int → Int)) (r_kept : Int) (r_rings : (Int → Int)) (r_rung : Int) (r_at : Int) (r_states : (Int → Int)) (r_held : (Int → Int)) (r_here : (Int → Int)) (r_there : (Int → Int)) (h_r_text : z_r r_text) (h_r_typed : z_n r_typed) (h_r_told : z_r r_told) (h_r_draft : z_r r_draft) (h_r_begun : z_r r_begun) (h_r_s : z_r r_s) (h_r_past : z_r r_past) (h_r_known : z_n r_known) (h_r_images : z_r r_images) (h_r_kept : z_n r_kept) (h_r_rings : z_r r_rings) (h_r_rung : z_n r_rung) (h_r_at : z_n r_at) (h_r_states : z_r r_states) (h_r_held : z_r r_held) (h_r_here : z_r r_here) (h_r_there : z_r r_there) (rr : Int) (q_r_s : (Int → Int)) (q_r_known : Int) (hm : m_X6_undo N r_s r_past r_known = some (rr, q_r_s, q_r_known)) : z_M l G yX6_undo cX6_undo 2 (some .int) (k2_rm 0 0) [.ref r_o] ([(r_o, z_o 6 [.ref r_Atext, z_i r_typed, .ref r_Atold, .ref r_Adraft, .ref r_Abegun, .ref r_As, .ref r_Apast, z_i r_known, .ref r_Aimages, z_i r_kept, .ref r_Arings, z_i r_rung, z_i r_at, .ref r_Astates, .ref r_Aheld, .ref r_Ahere, .ref r_Athere]), (r_Atext, z_a G.2.1 200 r_text), (r_Atold, z_a G.2.1 39 r_told), (r_Adraft, z_a G.2.1 39 r_draft), (r_Abegun, z_a G.2.1 73 r_begun), (r_As, z_a G.2.1 73 r_s), (r_Apast, z_a G.2.1 584 r_past), (r_Aimages, z_a G.2.1 146 r_images), (r_Arings, z_a G.2.1 6 r_rings), (r_Astates, z_a G.2.1 36 r_states), (r_Aheld, z_a G.2.1 73 r_held), (r_Ahere, z_a G.2.2.2.2 36 r_here), (r_Athere, z_a G.2.2.2.2 36 r_there)]) 0 0 (fun v w => v = some (z_i rr) ∧ w = [(r_o, z_o 6 [.ref r_Atext, z_i r_typed, .ref r_Atold, .ref r_Adraft, .ref r_Abegun, .ref r_As, .ref r_Apast, z_i q_r_known, .ref r_Aimages, z_i r_kept, .ref r_Arings, z_i r_rung, z_i r_at, .ref r_Astates, .ref r_Aheld, .ref r_Ahere, .ref r_Athere]), (r_Atext, z_a G.2.1 200 r_text), (r_Atold, z_a G.2.1 39 r_told), (r_Adraft, z_a G.2.1 39 r_draft), (r_Abegun, z_a G.2.1 73 r_begun), (r_As, z_a G.2.1 73 q_r_s), (r_Apast, z_a G.2.1 584 r_past), (r_Aimages, z_a G.2.1 146 r_images), (r_Arings, z_a G.2.1 6 r_rings), (r_Astates, z_a G.2.1 36 r_states), (r_Aheld, z_a G.2.1 73 r_held), (r_Ahere, z_a G.2.2.2.2 36 r_here), (r_Athere, z_a G.2.2.2.2 36 r_there)] ∧ z_n rr ∧ z_r q_r_s ∧ z_n q_r_known ∧ True) := by
  unfold m_X6_undo at hm
  refine z_M.intro (by decide +kernel) (Nat.le_of_ble_eq_true rfl) (L := [(0, .ref r_o)]) rfl (fun X C E => ?_)
  refine z_aload_n C dX6_undo_0 0 rfl ?_
  refine z_get C zf_X6_89 dX6_undo_1 0 rfl rfl ?_
  refine z_if_ne (tgt := 10) C h_r_known dX6_undo_4 (by decide) (fun c1 => ?_) (fun c1 => ?_)
  · have hm := z_pos c1 hm
    refine z_aload_n C dX6_undo_10 0 rfl ?_
    refine z_dup C rfl dX6_undo_11 ?_
    refine z_get C zf_X6_89 dX6_undo_12 0 rfl rfl ?_
    refine z_iconst C dX6_undo_15 ?_
    obtain ⟨c2, hm⟩ := z_chk_some hm
    refine z_isub C dX6_undo_16 ?_
    refine z_puti C zf_X6_89 dX6_undo_17 0 rfl rfl (ws' := [(r_o, z_o 6 [.ref r_Atext, z_i r_typed, .ref r_Atold, .ref r_Adraft, .ref r_Abegun, .ref r_As, .ref r_Apast, z_i (r_known - 1), .ref r_Aimages, z_i r_kept, .ref r_Arings, z_i r_rung, z_i r_at, .ref r_Astates, .ref r_Aheld, .ref r_Ahere, .ref r_Athere]), (r_Atext, z_a G.2.1 200 r_text), (r_Atold, z_a G.2.1 39 r_told), (r_Adraft, z_a G.2.1 39 r_draft), (r_Abegun, z_a G.2.1 73 r_begun), (r_As, z_a G.2.1 73 r_s), (r_Apast, z_a G.2.1 584 r_past), (r_Aimages, z_a G.2.1 146 r_images), (r_Arings, z_a G.2.1 6 r_rings), (r_Astates, z_a G.2.1 36 r_states), (r_Aheld, z_a G.2.1 73 r_held), (r_Ahere, z_a G.2.2.2.2 36 r_here), (r_Athere, z_a G.2.2.2.2 36 r_there)]) rfl ?_
    refine z_iconst C dX6_undo_20 ?_
    refine z_istore_n C dX6_undo_21 (by decide) (L' := [(1, z_i 0), (0, .ref r_o)]) rfl ?_
    obtain ⟨o_r_s_1, hl, hm⟩ := z_b1s hm
    have JX1 : z_r o_r_s_1 → z_J X 0 0 ([(r_o, z_o 6 [.ref r_Atext, z_i r_typed, .ref r_Atold, .ref r_Adraft, .ref r_Abegun, .ref r_As, .ref r_Apast, z_i (r_known - 1), .ref r_Aimages, z_i r_kept, .ref r_Arings, z_i r_rung, z_i r_at, .ref r_Astates, .ref r_Aheld, .ref r_Ahere, .ref r_Athere]), (r_Atext, z_a G.2.1 200 r_text), (r_Atold, z_a G.2.1 39 r_told), (r_Adraft, z_a G.2.1 39 r_draft), (r_Abegun, z_a G.2.1 73 r_begun), (r_As, z_a G.2.1 73 o_r_s_1), (r_Apast, z_a G.2.1 584 r_past), (r_Aimages, z_a G.2.1 146 r_images), (r_Arings, z_a G.2.1 6 r_rings), (r_Astates, z_a G.2.1 36 r_states), (r_Aheld, z_a G.2.1 73 r_held), (r_Ahere, z_a G.2.2.2.2 36 r_here), (r_Athere, z_a G.2.2.2.2 36 r_there)]) [(0, .ref r_o)] 54 [] := by
      intro h_o_r_s_1
      clear hl
      refine z_aload_n C dX6_undo_54 0 rfl ?_
      refine z_get C zf_X6_89 dX6_undo_55 0 rfl rfl ?_
      cases hm
      exact z_iret C E dX6_undo_58 ⟨rfl, rfl, c2, h_o_r_s_1, c2, trivial⟩
    clear hm
    have L1 : ∀ (n1 : Nat) (v1_1 : Int) (r_s_1 : (Int → Int)), z_n v1_1 → z_r r_s_1 → m_X6_undo_l1 N (r_known - 1) r_past n1 v1_1 r_s_1 = some (o_r_s_1) → z_J X 0 0 ([(r_o, z_o 6 [.ref r_Atext, z_i r_typed, .ref r_Atold, .ref r_Adraft, .ref r_Abegun, .ref r_As, .ref r_Apast, z_i (r_known - 1), .ref r_Aimages, z_i r_kept, .ref r_Arings, z_i r_rung, z_i r_at, .ref r_Astates, .ref r_Aheld, .ref r_Ahere, .ref r_Athere]), (r_Atext, z_a G.2.1 200 r_text), (r_Atold, z_a G.2.1 39 r_told), (r_Adraft, z_a G.2.1 39 r_draft), (r_Abegun, z_a G.2.1 73 r_begun), (r_As, z_a G.2.1 73 r_s_1), (r_Apast, z_a G.2.1 584 r_past), (r_Aimages, z_a G.2.1 146 r_images), (r_Arings, z_a G.2.1 6 r_rings), (r_Astates, z_a G.2.1 36 r_states), (r_Aheld, z_a G.2.1 73 r_held), (r_Ahere, z_a G.2.2.2.2 36 r_here), (r_Athere, z_a G.2.2.2.2 36 r_there)]) [(0, .ref r_o), (1, z_i v1_1)] 22 [] := by
      clear hl
      intro n1
      induction n1 with
      | zero =>
        intro v1_1 r_s_1 h_v1_1 h_r_s_1 hm
        rw [m_X6_undo_l1] at hm
        cases hm
      | succ n1 ih1 =>
        intro v1_1 r_s_1 h_v1_1 h_r_s_1 hm
        rw [m_X6_undo_l1] at hm
        refine z_iload_n C dX6_undo_22 1 rfl ?_
        refine z_bipush C dX6_undo_23 (by decide) ?_
        refine z_icmp_ge (tgt := 54) C h_v1_1 (z_k 73 rfl) dX6_undo_25 (by decide) (fun c3 => ?_) (fun c3 => ?_)
        · have hm := z_pos c3 hm
          refine z_sub (L' := [(0, .ref r_o)]) [0] rfl ?_
          cases hm
          exact JX1 h_r_s_1
        · have hm := z_neg c3 hm
          refine z_aload_n C dX6_undo_28 0 rfl ?_
          refine z_get C zf_X6_22 dX6_undo_29 0 rfl rfl ?_
          refine z_iload_n C dX6_undo_32 1 rfl ?_
          refine z_aload_n C dX6_undo_33 0 rfl ?_
          refine z_get C zf_X6_25 dX6_undo_34 0 rfl rfl ?_
          refine z_bipush C dX6_undo_37 (by decide) ?_
          refine z_aload_n C dX6_undo_39 0 rfl ?_
          refine z_get C zf_X6_89 dX6_undo_40 0 rfl rfl ?_
          obtain ⟨c4, hm⟩ := z_chk_some hm
          refine z_imul C dX6_undo_43 ?_
          refine z_iload_n C dX6_undo_44 1 rfl ?_
          obtain ⟨c5, hm⟩ := z_chk_some hm
          refine z_iadd C dX6_undo_45 ?_
          obtain ⟨c6, hm⟩ := z_chk_some hm
          refine z_iald C dX6_undo_46 6 rfl c6 c5 ?_
          obtain ⟨c7, hm⟩ := z_chk_some hm
          refine z_iast C dX6_undo_47 5 rfl c7 h_v1_1 (ws' := [(r_o, z_o 6 [.ref r_Atext, z_i r_typed, .ref r_Atold, .ref r_Adraft, .ref r_Abegun, .ref r_As, .ref r_Apast, z_i (r_known - 1), .ref r_Aimages, z_i r_kept, .ref r_Arings, z_i r_rung, z_i r_at, .ref r_Astates, .ref r_Aheld, .ref r_Ahere, .ref r_Athere]), (r_Atext, z_a G.2.1 200 r_text), (r_Atold, z_a G.2.1 39 r_told), (r_Adraft, z_a G.2.1 39 r_draft), (r_Abegun, z_a G.2.1 73 r_begun), (r_As, z_a G.2.1 73 (z_up r_s_1 v1_1 (r_past ((73 * (r_known - 1)) + v1_1)))), (r_Apast, z_a G.2.1 584 r_past), (r_Aimages, z_a G.2.1 146 r_images), (r_Arings, z_a G.2.1 6 r_rings), (r_Astates, z_a G.2.1 36 r_states), (r_Aheld, z_a G.2.1 73 r_held), (r_Ahere, z_a G.2.2.2.2 36 r_here), (r_Athere, z_a G.2.2.2.2 36 r_there)]) rfl ?_
          obtain ⟨c8, hm⟩ := z_chk_some hm
          refine z_iinc C dX6_undo_48 1 rfl (by decide) (L' := [(1, z_i (v1_1 + 1)), (0, .ref r_o)]) rfl ?_
          refine z_goto (tgt := 22) C dX6_undo_51 (by decide) ?_
          refine z_sub (L' := [(0, .ref r_o), (1, z_i (v1_1 + 1))]) [1, 0] rfl ?_
          exact ih1 (v1_1 + 1) (z_up r_s_1 v1_1 (r_past ((73 * (r_known - 1)) + v1_1))) c8 (z_r_up h_r_s_1 (h_r_past _)) hm
    refine z_sub (L' := [(0, .ref r_o), (1, z_i 0)]) [1, 0] rfl ?_
    exact L1 N 0 r_s (z_k 0 rfl) h_r_s hl
  · have hm := z_neg c1 hm
    refine z_bipush C dX6_undo_7 (by decide) ?_
    cases hm
    exact z_iret C E dX6_undo_9 ⟨rfl, rfl, (z_k (-2) rfl), h_r_s, h_r_known, trivial⟩
set_option maxRecDepth 100000 in
theorem k_X6_holds (l : Launch) (G : z_G) (N : Nat) (r_o r_Atext r_Atold r_Adraft r_Abegun r_As r_Apast r_Aimages r_Arings r_Astates r_Aheld r_Ahere r_Athere : Nat) (r_text : (Int → Int)) (r_typed : Int) (r_told : (Int → Int)) (r_draft : (Int → Int)) (r_begun : (Int → Int)) (r_s : (Int → Int)) (r_past : (Int → Int)) (r_known : Int) (r_images : (Int → Int)) (r_kept : Int) (r_rings : (Int → Int)) (r_rung : Int) (r_at : Int) (r_states : (Int → Int)) (r_held : (Int → Int)) (r_here : (Int → Int)) (r_there : (Int → Int)) (h_r_text : z_r r_text) (h_r_typed : z_n r_typed) (h_r_told : z_r r_told) (h_r_draft : z_r r_draft) (h_r_begun : z_r r_begun) (h_r_s : z_r r_s) (h_r_past : z_r r_past) (h_r_known : z_n r_known) (h_r_images : z_r r_images) (h_r_kept : z_n r_kept) (h_r_rings : z_r r_rings) (h_r_rung : z_n r_rung) (h_r_at : z_n r_at) (h_r_states : z_r r_states) (h_r_held : z_r r_held) (h_r_here : z_r r_here) (h_r_there : z_r r_there) (q_r_held : (Int → Int)) (hm : m_X6_holds N r_s r_held = some (q_r_held)) : z_M l G yX6_holds cX6_holds 2 none (k2_rm 0 0) [.ref r_o] ([(r_o, z_o 6 [.ref r_Atext, z_i r_typed, .ref r_Atold, .ref r_Adraft, .ref r_Abegun, .ref r_As, .ref r_Apast, z_i r_known, .ref r_Aimages, z_i r_kept, .ref r_Arings, z_i r_rung, z_i r_at, .ref r_Astates, .ref r_Aheld, .ref r_Ahere, .ref r_Athere]), (r_Atext, z_a G.2.1 200 r_text), (r_Atold, z_a G.2.1 39 r_told), (r_Adraft, z_a G.2.1 39 r_draft), (r_Abegun, z_a G.2.1 73 r_begun), (r_As, z_a G.2.1 73 r_s), (r_Apast, z_a G.2.1 584 r_past), (r_Aimages, z_a G.2.1 146 r_images), (r_Arings, z_a G.2.1 6 r_rings), (r_Astates, z_a G.2.1 36 r_states), (r_Aheld, z_a G.2.1 73 r_held), (r_Ahere, z_a G.2.2.2.2 36 r_here), (r_Athere, z_a G.2.2.2.2 36 r_there)]) 0 0 (fun v w => v = none ∧ w = [(r_o, z_o 6 [.ref r_Atext, z_i r_typed, .ref r_Atold, .ref r_Adraft, .ref r_Abegun, .ref r_As, .ref r_Apast, z_i r_known, .ref r_Aimages, z_i r_kept, .ref r_Arings, z_i r_rung, z_i r_at, .ref r_Astates, .ref r_Aheld, .ref r_Ahere, .ref r_Athere]), (r_Atext, z_a G.2.1 200 r_text), (r_Atold, z_a G.2.1 39 r_told), (r_Adraft, z_a G.2.1 39 r_draft), (r_Abegun, z_a G.2.1 73 r_begun), (r_As, z_a G.2.1 73 r_s), (r_Apast, z_a G.2.1 584 r_past), (r_Aimages, z_a G.2.1 146 r_images), (r_Arings, z_a G.2.1 6 r_rings), (r_Astates, z_a G.2.1 36 r_states), (r_Aheld, z_a G.2.1 73 q_r_held), (r_Ahere, z_a G.2.2.2.2 36 r_here), (r_Athere, z_a G.2.2.2.2 36 r_there)] ∧ z_r q_r_held ∧ True) := by
  unfold m_X6_holds at hm
  refine z_M.intro (by decide +kernel) (Nat.le_of_ble_eq_true rfl) (L := [(0, .ref r_o)]) rfl (fun X C E => ?_)
  refine z_iconst C dX6_holds_0 ?_
  refine z_istore_n C dX6_holds_1 (by decide) (L' := [(1, z_i 0), (0, .ref r_o)]) rfl ?_
  obtain ⟨o_r_held_1, hl, hm⟩ := z_b1s hm
  have JX1 : z_r o_r_held_1 → z_J X 0 0 ([(r_o, z_o 6 [.ref r_Atext, z_i r_typed, .ref r_Atold, .ref r_Adraft, .ref r_Abegun, .ref r_As, .ref r_Apast, z_i r_known, .ref r_Aimages, z_i r_kept, .ref r_Arings, z_i r_rung, z_i r_at, .ref r_Astates, .ref r_Aheld, .ref r_Ahere, .ref r_Athere]), (r_Atext, z_a G.2.1 200 r_text), (r_Atold, z_a G.2.1 39 r_told), (r_Adraft, z_a G.2.1 39 r_draft), (r_Abegun, z_a G.2.1 73 r_begun), (r_As, z_a G.2.1 73 r_s), (r_Apast, z_a G.2.1 584 r_past), (r_Aimages, z_a G.2.1 146 r_images), (r_Arings, z_a G.2.1 6 r_rings), (r_Astates, z_a G.2.1 36 r_states), (r_Aheld, z_a G.2.1 73 o_r_held_1), (r_Ahere, z_a G.2.2.2.2 36 r_here), (r_Athere, z_a G.2.2.2.2 36 r_there)]) [] 26 [] := by
    intro h_o_r_held_1
    clear hl
    cases hm
    exact z_vret C E dX6_holds_26 ⟨rfl, rfl, h_o_r_held_1, trivial⟩
  clear hm
  have L1 : ∀ (n1 : Nat) (v1_1 : Int) (r_held_1 : (Int → Int)), z_n v1_1 → z_r r_held_1 → m_X6_holds_l1 N r_s n1 v1_1 r_held_1 = some (o_r_held_1) → z_J X 0 0 ([(r_o, z_o 6 [.ref r_Atext, z_i r_typed, .ref r_Atold, .ref r_Adraft, .ref r_Abegun, .ref r_As, .ref r_Apast, z_i r_known, .ref r_Aimages, z_i r_kept, .ref r_Arings, z_i r_rung, z_i r_at, .ref r_Astates, .ref r_Aheld, .ref r_Ahere, .ref r_Athere]), (r_Atext, z_a G.2.1 200 r_text), (r_Atold, z_a G.2.1 39 r_told), (r_Adraft, z_a G.2.1 39 r_draft), (r_Abegun, z_a G.2.1 73 r_begun), (r_As, z_a G.2.1 73 r_s), (r_Apast, z_a G.2.1 584 r_past), (r_Aimages, z_a G.2.1 146 r_images), (r_Arings, z_a G.2.1 6 r_rings), (r_Astates, z_a G.2.1 36 r_states), (r_Aheld, z_a G.2.1 73 r_held_1), (r_Ahere, z_a G.2.2.2.2 36 r_here), (r_Athere, z_a G.2.2.2.2 36 r_there)]) [(0, .ref r_o), (1, z_i v1_1)] 2 [] := by
    clear hl
    intro n1
    induction n1 with
    | zero =>
      intro v1_1 r_held_1 h_v1_1 h_r_held_1 hm
      rw [m_X6_holds_l1] at hm
      cases hm
    | succ n1 ih1 =>
      intro v1_1 r_held_1 h_v1_1 h_r_held_1 hm
      rw [m_X6_holds_l1] at hm
      refine z_iload_n C dX6_holds_2 1 rfl ?_
      refine z_bipush C dX6_holds_3 (by decide) ?_
      refine z_icmp_ge (tgt := 26) C h_v1_1 (z_k 73 rfl) dX6_holds_5 (by decide) (fun c1 => ?_) (fun c1 => ?_)
      · have hm := z_pos c1 hm
        refine z_sub (L' := []) [] rfl ?_
        cases hm
        exact JX1 h_r_held_1
      · have hm := z_neg c1 hm
        refine z_aload_n C dX6_holds_8 0 rfl ?_
        refine z_get C zf_X6_37 dX6_holds_9 0 rfl rfl ?_
        refine z_iload_n C dX6_holds_12 1 rfl ?_
        refine z_aload_n C dX6_holds_13 0 rfl ?_
        refine z_get C zf_X6_22 dX6_holds_14 0 rfl rfl ?_
        refine z_iload_n C dX6_holds_17 1 rfl ?_
        obtain ⟨c2, hm⟩ := z_chk_some hm
        refine z_iald C dX6_holds_18 5 rfl c2 h_v1_1 ?_
        obtain ⟨c3, hm⟩ := z_chk_some hm
        refine z_iast C dX6_holds_19 10 rfl c3 h_v1_1 (ws' := [(r_o, z_o 6 [.ref r_Atext, z_i r_typed, .ref r_Atold, .ref r_Adraft, .ref r_Abegun, .ref r_As, .ref r_Apast, z_i r_known, .ref r_Aimages, z_i r_kept, .ref r_Arings, z_i r_rung, z_i r_at, .ref r_Astates, .ref r_Aheld, .ref r_Ahere, .ref r_Athere]), (r_Atext, z_a G.2.1 200 r_text), (r_Atold, z_a G.2.1 39 r_told), (r_Adraft, z_a G.2.1 39 r_draft), (r_Abegun, z_a G.2.1 73 r_begun), (r_As, z_a G.2.1 73 r_s), (r_Apast, z_a G.2.1 584 r_past), (r_Aimages, z_a G.2.1 146 r_images), (r_Arings, z_a G.2.1 6 r_rings), (r_Astates, z_a G.2.1 36 r_states), (r_Aheld, z_a G.2.1 73 (z_up r_held_1 v1_1 (r_s v1_1))), (r_Ahere, z_a G.2.2.2.2 36 r_here), (r_Athere, z_a G.2.2.2.2 36 r_there)]) rfl ?_
        obtain ⟨c4, hm⟩ := z_chk_some hm
        refine z_iinc C dX6_holds_20 1 rfl (by decide) (L' := [(1, z_i (v1_1 + 1)), (0, .ref r_o)]) rfl ?_
        refine z_goto (tgt := 2) C dX6_holds_23 (by decide) ?_
        refine z_sub (L' := [(0, .ref r_o), (1, z_i (v1_1 + 1))]) [1, 0] rfl ?_
        exact ih1 (v1_1 + 1) (z_up r_held_1 v1_1 (r_s v1_1)) c4 (z_r_up h_r_held_1 (h_r_s _)) hm
  refine z_sub (L' := [(0, .ref r_o), (1, z_i 0)]) [1, 0] rfl ?_
  exact L1 N 0 r_held (z_k 0 rfl) h_r_held hl
set_option maxRecDepth 100000 in
theorem k_X6_lets (l : Launch) (G : z_G) (N : Nat) (r_o r_Atext r_Atold r_Adraft r_Abegun r_As r_Apast r_Aimages r_Arings r_Astates r_Aheld r_Ahere r_Athere : Nat) (r_text : (Int → Int)) (r_typed : Int) (r_told : (Int → Int)) (r_draft : (Int → Int)) (r_begun : (Int → Int)) (r_s : (Int → Int)) (r_past : (Int → Int)) (r_known : Int) (r_images : (Int → Int)) (r_kept : Int) (r_rings : (Int → Int)) (r_rung : Int) (r_at : Int) (r_states : (Int → Int)) (r_held : (Int → Int)) (r_here : (Int → Int)) (r_there : (Int → Int)) (h_r_text : z_r r_text) (h_r_typed : z_n r_typed) (h_r_told : z_r r_told) (h_r_draft : z_r r_draft) (h_r_begun : z_r r_begun) (h_r_s : z_r r_s) (h_r_past : z_r r_past) (h_r_known : z_n r_known) (h_r_images : z_r r_images) (h_r_kept : z_n r_kept) (h_r_rings : z_r r_rings) (h_r_rung : z_n r_rung) (h_r_at : z_n r_at) (h_r_states : z_r r_states) (h_r_held : z_r r_held) (h_r_here : z_r r_here) (h_r_there : z_r r_there) (q_r_s : (Int → Int)) (hm : m_X6_lets N r_s r_held = some (q_r_s)) : z_M l G yX6_lets cX6_lets 2 none (k2_rm 0 0) [.ref r_o] ([(r_o, z_o 6 [.ref r_Atext, z_i r_typed, .ref r_Atold, .ref r_Adraft, .ref r_Abegun, .ref r_As, .ref r_Apast, z_i r_known, .ref r_Aimages, z_i r_kept, .ref r_Arings, z_i r_rung, z_i r_at, .ref r_Astates, .ref r_Aheld, .ref r_Ahere, .ref r_Athere]), (r_Atext, z_a G.2.1 200 r_text), (r_Atold, z_a G.2.1 39 r_told), (r_Adraft, z_a G.2.1 39 r_draft), (r_Abegun, z_a G.2.1 73 r_begun), (r_As, z_a G.2.1 73 r_s), (r_Apast, z_a G.2.1 584 r_past), (r_Aimages, z_a G.2.1 146 r_images), (r_Arings, z_a G.2.1 6 r_rings), (r_Astates, z_a G.2.1 36 r_states), (r_Aheld, z_a G.2.1 73 r_held), (r_Ahere, z_a G.2.2.2.2 36 r_here), (r_Athere, z_a G.2.2.2.2 36 r_there)]) 0 0 (fun v w => v = none ∧ w = [(r_o, z_o 6 [.ref r_Atext, z_i r_typed, .ref r_Atold, .ref r_Adraft, .ref r_Abegun, .ref r_As, .ref r_Apast, z_i r_known, .ref r_Aimages, z_i r_kept, .ref r_Arings, z_i r_rung, z_i r_at, .ref r_Astates, .ref r_Aheld, .ref r_Ahere, .ref r_Athere]), (r_Atext, z_a G.2.1 200 r_text), (r_Atold, z_a G.2.1 39 r_told), (r_Adraft, z_a G.2.1 39 r_draft), (r_Abegun, z_a G.2.1 73 r_begun), (r_As, z_a G.2.1 73 q_r_s), (r_Apast, z_a G.2.1 584 r_past), (r_Aimages, z_a G.2.1 146 r_images), (r_Arings, z_a G.2.1 6 r_rings), (r_Astates, z_a G.2.1 36 r_states), (r_Aheld, z_a G.2.1 73 r_held), (r_Ahere, z_a G.2.2.2.2 36 r_here), (r_Athere, z_a G.2.2.2.2 36 r_there)] ∧ z_r q_r_s ∧ True) := by
  unfold m_X6_lets at hm
  refine z_M.intro (by decide +kernel) (Nat.le_of_ble_eq_true rfl) (L := [(0, .ref r_o)]) rfl (fun X C E => ?_)
  refine z_iconst C dX6_lets_0 ?_
  refine z_istore_n C dX6_lets_1 (by decide) (L' := [(1, z_i 0), (0, .ref r_o)]) rfl ?_
  obtain ⟨o_r_s_1, hl, hm⟩ := z_b1s hm
  have JX1 : z_r o_r_s_1 → z_J X 0 0 ([(r_o, z_o 6 [.ref r_Atext, z_i r_typed, .ref r_Atold, .ref r_Adraft, .ref r_Abegun, .ref r_As, .ref r_Apast, z_i r_known, .ref r_Aimages, z_i r_kept, .ref r_Arings, z_i r_rung, z_i r_at, .ref r_Astates, .ref r_Aheld, .ref r_Ahere, .ref r_Athere]), (r_Atext, z_a G.2.1 200 r_text), (r_Atold, z_a G.2.1 39 r_told), (r_Adraft, z_a G.2.1 39 r_draft), (r_Abegun, z_a G.2.1 73 r_begun), (r_As, z_a G.2.1 73 o_r_s_1), (r_Apast, z_a G.2.1 584 r_past), (r_Aimages, z_a G.2.1 146 r_images), (r_Arings, z_a G.2.1 6 r_rings), (r_Astates, z_a G.2.1 36 r_states), (r_Aheld, z_a G.2.1 73 r_held), (r_Ahere, z_a G.2.2.2.2 36 r_here), (r_Athere, z_a G.2.2.2.2 36 r_there)]) [] 26 [] := by
    intro h_o_r_s_1
    clear hl
    cases hm
    exact z_vret C E dX6_lets_26 ⟨rfl, rfl, h_o_r_s_1, trivial⟩
  clear hm
  have L1 : ∀ (n1 : Nat) (v1_1 : Int) (r_s_1 : (Int → Int)), z_n v1_1 → z_r r_s_1 → m_X6_lets_l1 N r_held n1 v1_1 r_s_1 = some (o_r_s_1) → z_J X 0 0 ([(r_o, z_o 6 [.ref r_Atext, z_i r_typed, .ref r_Atold, .ref r_Adraft, .ref r_Abegun, .ref r_As, .ref r_Apast, z_i r_known, .ref r_Aimages, z_i r_kept, .ref r_Arings, z_i r_rung, z_i r_at, .ref r_Astates, .ref r_Aheld, .ref r_Ahere, .ref r_Athere]), (r_Atext, z_a G.2.1 200 r_text), (r_Atold, z_a G.2.1 39 r_told), (r_Adraft, z_a G.2.1 39 r_draft), (r_Abegun, z_a G.2.1 73 r_begun), (r_As, z_a G.2.1 73 r_s_1), (r_Apast, z_a G.2.1 584 r_past), (r_Aimages, z_a G.2.1 146 r_images), (r_Arings, z_a G.2.1 6 r_rings), (r_Astates, z_a G.2.1 36 r_states), (r_Aheld, z_a G.2.1 73 r_held), (r_Ahere, z_a G.2.2.2.2 36 r_here), (r_Athere, z_a G.2.2.2.2 36 r_there)]) [(0, .ref r_o), (1, z_i v1_1)] 2 [] := by
    clear hl
    intro n1
    induction n1 with
    | zero =>
      intro v1_1 r_s_1 h_v1_1 h_r_s_1 hm
      rw [m_X6_lets_l1] at hm
      cases hm
    | succ n1 ih1 =>
      intro v1_1 r_s_1 h_v1_1 h_r_s_1 hm
      rw [m_X6_lets_l1] at hm
      refine z_iload_n C dX6_lets_2 1 rfl ?_
      refine z_bipush C dX6_lets_3 (by decide) ?_
      refine z_icmp_ge (tgt := 26) C h_v1_1 (z_k 73 rfl) dX6_lets_5 (by decide) (fun c1 => ?_) (fun c1 => ?_)
      · have hm := z_pos c1 hm
        refine z_sub (L' := []) [] rfl ?_
        cases hm
        exact JX1 h_r_s_1
      · have hm := z_neg c1 hm
        refine z_aload_n C dX6_lets_8 0 rfl ?_
        refine z_get C zf_X6_22 dX6_lets_9 0 rfl rfl ?_
        refine z_iload_n C dX6_lets_12 1 rfl ?_
        refine z_aload_n C dX6_lets_13 0 rfl ?_
        refine z_get C zf_X6_37 dX6_lets_14 0 rfl rfl ?_
        refine z_iload_n C dX6_lets_17 1 rfl ?_
        obtain ⟨c2, hm⟩ := z_chk_some hm
        refine z_iald C dX6_lets_18 10 rfl c2 h_v1_1 ?_
        obtain ⟨c3, hm⟩ := z_chk_some hm
        refine z_iast C dX6_lets_19 5 rfl c3 h_v1_1 (ws' := [(r_o, z_o 6 [.ref r_Atext, z_i r_typed, .ref r_Atold, .ref r_Adraft, .ref r_Abegun, .ref r_As, .ref r_Apast, z_i r_known, .ref r_Aimages, z_i r_kept, .ref r_Arings, z_i r_rung, z_i r_at, .ref r_Astates, .ref r_Aheld, .ref r_Ahere, .ref r_Athere]), (r_Atext, z_a G.2.1 200 r_text), (r_Atold, z_a G.2.1 39 r_told), (r_Adraft, z_a G.2.1 39 r_draft), (r_Abegun, z_a G.2.1 73 r_begun), (r_As, z_a G.2.1 73 (z_up r_s_1 v1_1 (r_held v1_1))), (r_Apast, z_a G.2.1 584 r_past), (r_Aimages, z_a G.2.1 146 r_images), (r_Arings, z_a G.2.1 6 r_rings), (r_Astates, z_a G.2.1 36 r_states), (r_Aheld, z_a G.2.1 73 r_held), (r_Ahere, z_a G.2.2.2.2 36 r_here), (r_Athere, z_a G.2.2.2.2 36 r_there)]) rfl ?_
        obtain ⟨c4, hm⟩ := z_chk_some hm
        refine z_iinc C dX6_lets_20 1 rfl (by decide) (L' := [(1, z_i (v1_1 + 1)), (0, .ref r_o)]) rfl ?_
        refine z_goto (tgt := 2) C dX6_lets_23 (by decide) ?_
        refine z_sub (L' := [(0, .ref r_o), (1, z_i (v1_1 + 1))]) [1, 0] rfl ?_
        exact ih1 (v1_1 + 1) (z_up r_s_1 v1_1 (r_held v1_1)) c4 (z_r_up h_r_s_1 (h_r_held _)) hm
  refine z_sub (L' := [(0, .ref r_o), (1, z_i 0)]) [1, 0] rfl ?_
  exact L1 N 0 r_s (z_k 0 rfl) h_r_s hl
set_option maxRecDepth 100000 in
theorem k_X6_behind (l : Launch) (G : z_G) (N : Nat) (r_o r_Atext r_Atold r_Adraft r_Abegun r_As r_Apast r_Aimages r_Arings r_Astates r_Aheld r_Ahere r_Athere : Nat) (r_text : (Int → Int)) (r_typed : Int) (r_told : (Int → Int)) (r_draft : (Int → Int)) (r_begun : (Int → Int)) (r_s : (Int → Int)) (r_past : (Int → Int)) (r_known : Int) (r_images : (Int → Int)) (r_kept : Int) (r_rings : (Int → Int)) (r_rung : Int) (r_at : Int) (r_states : (Int → Int)) (r_held : (Int → Int)) (r_here : (Int → Int)) (r_there : (Int → Int)) (x1 : Int) (x2 : Int) (x3 : Int) (h_r_text : z_r r_text) (h_r_typed : z_n r_typed) (h_r_told : z_r r_told) (h_r_draft : z_r r_draft) (h_r_begun : z_r r_begun) (h_r_s : z_r r_s) (h_r_past : z_r r_past) (h_r_known : z_n r_known) (h_r_images : z_r r_images) (h_r_kept : z_n r_kept) (h_r_rings : z_r r_rings) (h_r_rung : z_n r_rung) (h_r_at : z_n r_at) (h_r_states : z_r r_states) (h_r_held : z_r r_held) (h_r_here : z_r r_here) (h_r_there : z_r r_there) (h_x1 : z_n x1) (h_x2 : z_n x2) (h_x3 : z_n x3) (rr : Int) (q_r_s : (Int → Int)) (q_r_states : (Int → Int)) (q_r_held : (Int → Int)) (hm : m_X6_behind N r_told r_s r_states r_held x1 x2 x3 = some (rr, q_r_s, q_r_states, q_r_held)) : z_M l G yX6_behind cX6_behind 5 (some .int) (k2_rm 6 139) [.ref r_o, z_i x1, z_i x2, z_i x3] ([(r_o, z_o 6 [.ref r_Atext, z_i r_typed, .ref r_Atold, .ref r_Adraft, .ref r_Abegun, .ref r_As, .ref r_Apast, z_i r_known, .ref r_Aimages, z_i r_kept, .ref r_Arings, z_i r_rung, z_i r_at, .ref r_Astates, .ref r_Aheld, .ref r_Ahere, .ref r_Athere]), (r_Atext, z_a G.2.1 200 r_text), (r_Atold, z_a G.2.1 39 r_told), (r_Adraft, z_a G.2.1 39 r_draft), (r_Abegun, z_a G.2.1 73 r_begun), (r_As, z_a G.2.1 73 r_s), (r_Apast, z_a G.2.1 584 r_past), (r_Aimages, z_a G.2.1 146 r_images), (r_Arings, z_a G.2.1 6 r_rings), (r_Astates, z_a G.2.1 36 r_states), (r_Aheld, z_a G.2.1 73 r_held), (r_Ahere, z_a G.2.2.2.2 36 r_here), (r_Athere, z_a G.2.2.2.2 36 r_there)]) 0 0 (fun v w => v = some (z_i rr) ∧ w = [(r_o, z_o 6 [.ref r_Atext, z_i r_typed, .ref r_Atold, .ref r_Adraft, .ref r_Abegun, .ref r_As, .ref r_Apast, z_i r_known, .ref r_Aimages, z_i r_kept, .ref r_Arings, z_i r_rung, z_i r_at, .ref r_Astates, .ref r_Aheld, .ref r_Ahere, .ref r_Athere]), (r_Atext, z_a G.2.1 200 r_text), (r_Atold, z_a G.2.1 39 r_told), (r_Adraft, z_a G.2.1 39 r_draft), (r_Abegun, z_a G.2.1 73 r_begun), (r_As, z_a G.2.1 73 q_r_s), (r_Apast, z_a G.2.1 584 r_past), (r_Aimages, z_a G.2.1 146 r_images), (r_Arings, z_a G.2.1 6 r_rings), (r_Astates, z_a G.2.1 36 q_r_states), (r_Aheld, z_a G.2.1 73 q_r_held), (r_Ahere, z_a G.2.2.2.2 36 r_here), (r_Athere, z_a G.2.2.2.2 36 r_there)] ∧ z_n rr ∧ z_r q_r_s ∧ z_r q_r_states ∧ z_r q_r_held ∧ True) := by
  unfold m_X6_behind at hm
  refine z_M.intro (by decide +kernel) (Nat.le_of_ble_eq_true rfl) (L := [(0, .ref r_o), (1, z_i x1), (2, z_i x2), (3, z_i x3)]) rfl (fun X C E => ?_)
  refine z_iload_n C dX6_behind_0 1 rfl ?_
  refine z_iconst C dX6_behind_1 ?_
  refine z_bipush C dX6_behind_2 (by decide) ?_
  obtain ⟨r1, k2, hm⟩ := z_b1s hm
  refine z_callSi C (k_X6_in l G N x1 0 40 h_x1 (z_k 0 rfl) (z_k 40 rfl) r1 k2) zs_X6_in zl_X6_57 dX6_behind_4 [] rfl rfl rfl (ws' := [(r_o, z_o 6 [.ref r_Atext, z_i r_typed, .ref r_Atold, .ref r_Adraft, .ref r_Abegun, .ref r_As, .ref r_Apast, z_i r_known, .ref r_Aimages, z_i r_kept, .ref r_Arings, z_i r_rung, z_i r_at, .ref r_Astates, .ref r_Aheld, .ref r_Ahere, .ref r_Athere]), (r_Atext, z_a G.2.1 200 r_text), (r_Atold, z_a G.2.1 39 r_told), (r_Adraft, z_a G.2.1 39 r_draft), (r_Abegun, z_a G.2.1 73 r_begun), (r_As, z_a G.2.1 73 r_s), (r_Apast, z_a G.2.1 584 r_past), (r_Aimages, z_a G.2.1 146 r_images), (r_Arings, z_a G.2.1 6 r_rings), (r_Astates, z_a G.2.1 36 r_states), (r_Aheld, z_a G.2.1 73 r_held), (r_Ahere, z_a G.2.2.2.2 36 r_here), (r_Athere, z_a G.2.2.2.2 36 r_there)]) rfl rfl [] rfl (Nat.le_of_ble_eq_true rfl) ⟨Nat.le_of_ble_eq_true rfl, Nat.le_of_ble_eq_true rfl⟩ ⟨rfl, rfl⟩ ⟨Nat.zero_le _, Nat.zero_le _⟩ (fun hF => ?_)
  obtain ⟨hb_r1, -⟩ := hF
  refine z_if_eq (tgt := 27) C (z_n01 hb_r1) dX6_behind_7 (by decide) (fun c3 => ?_) (fun c3 => ?_)
  · have hm := z_pos c3 hm
    refine z_iconst C dX6_behind_27 ?_
    cases hm
    exact z_iret C E dX6_behind_28 ⟨rfl, rfl, (z_k (-1) rfl), h_r_s, h_r_states, h_r_held, trivial⟩
  · have hm := z_neg c3 hm
    refine z_aload_n C dX6_behind_10 0 rfl ?_
    refine z_iload_n C dX6_behind_11 2 rfl ?_
    obtain ⟨r4, k5, hm⟩ := z_b1s hm
    refine z_callVid C (k_X6_isCell l G N r_o r_Atext r_Atold r_Adraft r_Abegun r_As r_Apast r_Aimages r_Arings r_Astates r_Aheld r_Ahere r_Athere r_text r_typed r_told r_draft r_begun r_s r_past r_known r_images r_kept r_rings r_rung r_at r_states r_held r_here r_there x2 h_r_text h_r_typed h_r_told h_r_draft h_r_begun h_r_s h_r_past h_r_known h_r_images h_r_kept h_r_rings h_r_rung h_r_at h_r_states h_r_held h_r_here h_r_there h_x2 r4 k5) zv_X6_isCell zl_X6_98 dX6_behind_12 rfl 0 rfl rfl rfl [] rfl (Nat.le_of_ble_eq_true rfl) ⟨Nat.le_of_ble_eq_true rfl, Nat.le_of_ble_eq_true rfl⟩ ⟨rfl, rfl⟩ ⟨Nat.zero_le _, Nat.zero_le _⟩ (fun hF => ?_)
    obtain ⟨hb_r4, -⟩ := hF
    refine z_if_eq (tgt := 27) C (z_n01 hb_r4) dX6_behind_15 (by decide) (fun c6 => ?_) (fun c6 => ?_)
    · have hm := z_pos c6 hm
      refine z_iconst C dX6_behind_27 ?_
      cases hm
      exact z_iret C E dX6_behind_28 ⟨rfl, rfl, (z_k (-1) rfl), h_r_s, h_r_states, h_r_held, trivial⟩
    · have hm := z_neg c6 hm
      refine z_iload_n C dX6_behind_18 3 rfl ?_
      refine z_iconst C dX6_behind_19 ?_
      refine z_iconst C dX6_behind_20 ?_
      obtain ⟨r7, k8, hm⟩ := z_b1s hm
      refine z_callSi C (k_X6_in l G N x3 0 1 h_x3 (z_k 0 rfl) (z_k 1 rfl) r7 k8) zs_X6_in zl_X6_57 dX6_behind_21 [] rfl rfl rfl (ws' := [(r_o, z_o 6 [.ref r_Atext, z_i r_typed, .ref r_Atold, .ref r_Adraft, .ref r_Abegun, .ref r_As, .ref r_Apast, z_i r_known, .ref r_Aimages, z_i r_kept, .ref r_Arings, z_i r_rung, z_i r_at, .ref r_Astates, .ref r_Aheld, .ref r_Ahere, .ref r_Athere]), (r_Atext, z_a G.2.1 200 r_text), (r_Atold, z_a G.2.1 39 r_told), (r_Adraft, z_a G.2.1 39 r_draft), (r_Abegun, z_a G.2.1 73 r_begun), (r_As, z_a G.2.1 73 r_s), (r_Apast, z_a G.2.1 584 r_past), (r_Aimages, z_a G.2.1 146 r_images), (r_Arings, z_a G.2.1 6 r_rings), (r_Astates, z_a G.2.1 36 r_states), (r_Aheld, z_a G.2.1 73 r_held), (r_Ahere, z_a G.2.2.2.2 36 r_here), (r_Athere, z_a G.2.2.2.2 36 r_there)]) rfl rfl [] rfl (Nat.le_of_ble_eq_true rfl) ⟨Nat.le_of_ble_eq_true rfl, Nat.le_of_ble_eq_true rfl⟩ ⟨rfl, rfl⟩ ⟨Nat.zero_le _, Nat.zero_le _⟩ (fun hF => ?_)
      obtain ⟨hb_r7, -⟩ := hF
      refine z_if_ne (tgt := 29) C (z_n01 hb_r7) dX6_behind_24 (by decide) (fun c9 => ?_) (fun c9 => ?_)
      · have hm := z_pos c9 hm
        refine z_aload_n C dX6_behind_29 0 rfl ?_
        obtain ⟨r_held_10, k11, hm⟩ := z_b1s hm
        refine z_callVvd C (k_X6_holds l G N r_o r_Atext r_Atold r_Adraft r_Abegun r_As r_Apast r_Aimages r_Arings r_Astates r_Aheld r_Ahere r_Athere r_text r_typed r_told r_draft r_begun r_s r_past r_known r_images r_kept r_rings r_rung r_at r_states r_held r_here r_there h_r_text h_r_typed h_r_told h_r_draft h_r_begun h_r_s h_r_past h_r_known h_r_images h_r_kept h_r_rings h_r_rung h_r_at h_r_states h_r_held h_r_here h_r_there r_held_10 k11) zv_X6_holds zl_X6_137 dX6_behind_30 rfl 0 rfl rfl rfl [] rfl (Nat.le_of_ble_eq_true rfl) ⟨Nat.le_of_ble_eq_true rfl, Nat.le_of_ble_eq_true rfl⟩ ⟨rfl, rfl⟩ ⟨Nat.zero_le _, Nat.zero_le _⟩ (fun hF => ?_)
        obtain ⟨h_r_held_10, -⟩ := hF
        refine z_iconst C dX6_behind_33 ?_
        refine z_istore C dX6_behind_34 (by decide) (L' := [(4, z_i 0), (0, .ref r_o), (1, z_i x1), (2, z_i x2), (3, z_i x3)]) rfl ?_
        obtain ⟨o_r_s_1, hl, hm⟩ := z_b1s hm
        have JX1 : z_r o_r_s_1 → z_J X 0 0 ([(r_o, z_o 6 [.ref r_Atext, z_i r_typed, .ref r_Atold, .ref r_Adraft, .ref r_Abegun, .ref r_As, .ref r_Apast, z_i r_known, .ref r_Aimages, z_i r_kept, .ref r_Arings, z_i r_rung, z_i r_at, .ref r_Astates, .ref r_Aheld, .ref r_Ahere, .ref r_Athere]), (r_Atext, z_a G.2.1 200 r_text), (r_Atold, z_a G.2.1 39 r_told), (r_Adraft, z_a G.2.1 39 r_draft), (r_Abegun, z_a G.2.1 73 r_begun), (r_As, z_a G.2.1 73 o_r_s_1), (r_Apast, z_a G.2.1 584 r_past), (r_Aimages, z_a G.2.1 146 r_images), (r_Arings, z_a G.2.1 6 r_rings), (r_Astates, z_a G.2.1 36 r_states), (r_Aheld, z_a G.2.1 73 r_held_10), (r_Ahere, z_a G.2.2.2.2 36 r_here), (r_Athere, z_a G.2.2.2.2 36 r_there)]) [(0, .ref r_o), (2, z_i x2), (3, z_i x3)] 52 [] := by
          intro h_o_r_s_1
          clear hl
          refine z_aload_n C dX6_behind_52 0 rfl ?_
          obtain ⟨r_states_16, k17, hm⟩ := z_b1s hm
          refine z_callVvd C (k_X6_laysStates l G N r_o r_Atext r_Atold r_Adraft r_Abegun r_As r_Apast r_Aimages r_Arings r_Astates r_Aheld r_Ahere r_Athere r_text r_typed r_told r_draft r_begun o_r_s_1 r_past r_known r_images r_kept r_rings r_rung r_at r_states r_held_10 r_here r_there h_r_text h_r_typed h_r_told h_r_draft h_r_begun h_o_r_s_1 h_r_past h_r_known h_r_images h_r_kept h_r_rings h_r_rung h_r_at h_r_states h_r_held_10 h_r_here h_r_there r_states_16 k17) zv_X6_laysStates zl_X6_118 dX6_behind_53 rfl 0 rfl rfl rfl [] rfl (Nat.le_of_ble_eq_true rfl) ⟨Nat.le_of_ble_eq_true rfl, Nat.le_of_ble_eq_true rfl⟩ ⟨rfl, rfl⟩ ⟨Nat.zero_le _, Nat.zero_le _⟩ (fun hF => ?_)
          obtain ⟨h_r_states_16, -⟩ := hF
          refine z_iload_n C dX6_behind_56 2 rfl ?_
          obtain ⟨s23, hj, hm⟩ := z_b1s hm
          have J24 : z_n s23 → z_J X 0 0 ([(r_o, z_o 6 [.ref r_Atext, z_i r_typed, .ref r_Atold, .ref r_Adraft, .ref r_Abegun, .ref r_As, .ref r_Apast, z_i r_known, .ref r_Aimages, z_i r_kept, .ref r_Arings, z_i r_rung, z_i r_at, .ref r_Astates, .ref r_Aheld, .ref r_Ahere, .ref r_Athere]), (r_Atext, z_a G.2.1 200 r_text), (r_Atold, z_a G.2.1 39 r_told), (r_Adraft, z_a G.2.1 39 r_draft), (r_Abegun, z_a G.2.1 73 r_begun), (r_As, z_a G.2.1 73 o_r_s_1), (r_Apast, z_a G.2.1 584 r_past), (r_Aimages, z_a G.2.1 146 r_images), (r_Arings, z_a G.2.1 6 r_rings), (r_Astates, z_a G.2.1 36 r_states_16), (r_Aheld, z_a G.2.1 73 r_held_10), (r_Ahere, z_a G.2.2.2.2 36 r_here), (r_Athere, z_a G.2.2.2.2 36 r_there)]) [(0, .ref r_o)] 89 [z_i s23] := by
            intro h_s23
            clear hj
            refine z_istore C dX6_behind_89 (by decide) (L' := [(4, z_i s23), (0, .ref r_o)]) rfl ?_
            refine z_aload_n C dX6_behind_91 1 rfl ?_
            obtain ⟨r_s_25, k26, hm⟩ := z_b1s hm
            refine z_callVvd C (k_X6_lets l G N r_o r_Atext r_Atold r_Adraft r_Abegun r_As r_Apast r_Aimages r_Arings r_Astates r_Aheld r_Ahere r_Athere r_text r_typed r_told r_draft r_begun o_r_s_1 r_past r_known r_images r_kept r_rings r_rung r_at r_states_16 r_held_10 r_here r_there h_r_text h_r_typed h_r_told h_r_draft h_r_begun h_o_r_s_1 h_r_past h_r_known h_r_images h_r_kept h_r_rings h_r_rung h_r_at h_r_states_16 h_r_held_10 h_r_here h_r_there r_s_25 k26) zv_X6_lets zl_X6_140 dX6_behind_92 rfl 0 rfl rfl rfl [] rfl (Nat.le_of_ble_eq_true rfl) ⟨Nat.le_of_ble_eq_true rfl, Nat.le_of_ble_eq_true rfl⟩ ⟨rfl, rfl⟩ ⟨Nat.zero_le _, Nat.zero_le _⟩ (fun hF => ?_)
            obtain ⟨h_r_s_25, -⟩ := hF
            refine z_iload C dX6_behind_95 0 rfl ?_
            cases hm
            exact z_iret C E dX6_behind_97 ⟨rfl, rfl, h_s23, h_r_s_25, h_r_states_16, h_r_held_10, trivial⟩
          replace hm := hj
          clear hj
          refine z_if_ne (tgt := 69) C h_x3 dX6_behind_57 (by decide) (fun c18 => ?_) (fun c18 => ?_)
          · have hm := z_pos c18 hm
            refine z_aload_n C dX6_behind_69 0 rfl ?_
            refine z_get C zf_X6_34 dX6_behind_70 0 rfl rfl ?_
            refine z_iload_n C dX6_behind_73 1 rfl ?_
            obtain ⟨c19, hm⟩ := z_chk_some hm
            refine z_iald C dX6_behind_74 9 rfl c19 h_x2 ?_
            refine z_if_ge (tgt := 83) C (h_r_states_16 _) dX6_behind_75 (by decide) (fun c20 => ?_) (fun c20 => ?_)
            · have hm := z_pos c20 hm
              refine z_aload_n C dX6_behind_83 0 rfl ?_
              refine z_get C zf_X6_34 dX6_behind_84 0 rfl rfl ?_
              refine z_iload_n C dX6_behind_87 1 rfl ?_
              obtain ⟨c21, hm⟩ := z_chk_some hm
              refine z_iald C dX6_behind_88 9 rfl c21 h_x2 ?_
              refine z_sub (L' := [(0, .ref r_o)]) [0] rfl ?_
              cases hm
              exact J24 (h_r_states_16 _)
            · have hm := z_neg c20 hm
              refine z_bipush C dX6_behind_78 (by decide) ?_
              refine z_goto (tgt := 89) C dX6_behind_80 (by decide) ?_
              refine z_sub (L' := [(0, .ref r_o)]) [0] rfl ?_
              cases hm
              exact J24 (z_k (-4) rfl)
          · have hm := z_neg c18 hm
            refine z_aload_n C dX6_behind_60 0 rfl ?_
            refine z_get C zf_X6_22 dX6_behind_61 0 rfl rfl ?_
            refine z_iload_n C dX6_behind_64 1 rfl ?_
            obtain ⟨c22, hm⟩ := z_chk_some hm
            refine z_iald C dX6_behind_65 5 rfl c22 h_x2 ?_
            refine z_goto (tgt := 89) C dX6_behind_66 (by decide) ?_
            refine z_sub (L' := [(0, .ref r_o)]) [0] rfl ?_
            cases hm
            exact J24 (h_o_r_s_1 _)
        clear hm
        have L1 : ∀ (n1 : Nat) (v4_1 : Int) (r_s_1 : (Int → Int)), z_n v4_1 → z_r r_s_1 → m_X6_behind_l1 N x1 r_told n1 v4_1 r_s_1 = some (o_r_s_1) → z_J X 0 0 ([(r_o, z_o 6 [.ref r_Atext, z_i r_typed, .ref r_Atold, .ref r_Adraft, .ref r_Abegun, .ref r_As, .ref r_Apast, z_i r_known, .ref r_Aimages, z_i r_kept, .ref r_Arings, z_i r_rung, z_i r_at, .ref r_Astates, .ref r_Aheld, .ref r_Ahere, .ref r_Athere]), (r_Atext, z_a G.2.1 200 r_text), (r_Atold, z_a G.2.1 39 r_told), (r_Adraft, z_a G.2.1 39 r_draft), (r_Abegun, z_a G.2.1 73 r_begun), (r_As, z_a G.2.1 73 r_s_1), (r_Apast, z_a G.2.1 584 r_past), (r_Aimages, z_a G.2.1 146 r_images), (r_Arings, z_a G.2.1 6 r_rings), (r_Astates, z_a G.2.1 36 r_states), (r_Aheld, z_a G.2.1 73 r_held_10), (r_Ahere, z_a G.2.2.2.2 36 r_here), (r_Athere, z_a G.2.2.2.2 36 r_there)]) [(0, .ref r_o), (1, z_i x1), (2, z_i x2), (3, z_i x3), (4, z_i v4_1)] 36 [] := by
          clear hl
          intro n1
          induction n1 with
          | zero =>
            intro v4_1 r_s_1 h_v4_1 h_r_s_1 hm
            rw [m_X6_behind_l1] at hm
            cases hm
          | succ n1 ih1 =>
            intro v4_1 r_s_1 h_v4_1 h_r_s_1 hm
            rw [m_X6_behind_l1] at hm
            refine z_iload C dX6_behind_36 4 rfl ?_
            refine z_iload_n C dX6_behind_38 1 rfl ?_
            refine z_icmp_ge (tgt := 52) C h_v4_1 h_x1 dX6_behind_39 (by decide) (fun c12 => ?_) (fun c12 => ?_)
            · have hm := z_pos c12 hm
              refine z_sub (L' := [(0, .ref r_o), (2, z_i x2), (3, z_i x3)]) [0, 2, 3] rfl ?_
              cases hm
              exact JX1 h_r_s_1
            · have hm := z_neg c12 hm
              refine z_aload_n C dX6_behind_42 0 rfl ?_
              obtain ⟨r_s_13, k14, hm⟩ := z_b1s hm
              refine z_callVvd C (k_X6_shines l G N r_o r_Atext r_Atold r_Adraft r_Abegun r_As r_Apast r_Aimages r_Arings r_Astates r_Aheld r_Ahere r_Athere r_text r_typed r_told r_draft r_begun r_s_1 r_past r_known r_images r_kept r_rings r_rung r_at r_states r_held_10 r_here r_there h_r_text h_r_typed h_r_told h_r_draft h_r_begun h_r_s_1 h_r_past h_r_known h_r_images h_r_kept h_r_rings h_r_rung h_r_at h_r_states h_r_held_10 h_r_here h_r_there r_s_13 k14) zv_X6_shines zl_X6_134 dX6_behind_43 rfl 0 rfl rfl rfl [] rfl (Nat.le_of_ble_eq_true rfl) ⟨Nat.le_of_ble_eq_true rfl, Nat.le_of_ble_eq_true rfl⟩ ⟨rfl, rfl⟩ ⟨Nat.zero_le _, Nat.zero_le _⟩ (fun hF => ?_)
              obtain ⟨h_r_s_13, -⟩ := hF
              obtain ⟨c15, hm⟩ := z_chk_some hm
              refine z_iinc C dX6_behind_46 4 rfl (by decide) (L' := [(4, z_i (v4_1 + 1)), (0, .ref r_o), (1, z_i x1), (2, z_i x2), (3, z_i x3)]) rfl ?_
              refine z_goto (tgt := 36) C dX6_behind_49 (by decide) ?_
              refine z_sub (L' := [(0, .ref r_o), (1, z_i x1), (2, z_i x2), (3, z_i x3), (4, z_i (v4_1 + 1))]) [1, 2, 3, 4, 0] rfl ?_
              exact ih1 (v4_1 + 1) r_s_13 c15 h_r_s_13 hm
        refine z_sub (L' := [(0, .ref r_o), (1, z_i x1), (2, z_i x2), (3, z_i x3), (4, z_i 0)]) [1, 2, 3, 4, 0] rfl ?_
        exact L1 N 0 r_s (z_k 0 rfl) h_r_s hl
      · have hm := z_neg c9 hm
        refine z_iconst C dX6_behind_27 ?_
        cases hm
        exact z_iret C E dX6_behind_28 ⟨rfl, rfl, (z_k (-1) rfl), h_r_s, h_r_states, h_r_held, trivial⟩
set_option maxRecDepth 100000 in
theorem k_X6_lowest (l : Launch) (G : z_G) (N : Nat) (r_o r_Atext r_Atold r_Adraft r_Abegun r_As r_Apast r_Aimages r_Arings r_Astates r_Aheld r_Ahere r_Athere : Nat) (r_text : (Int → Int)) (r_typed : Int) (r_told : (Int → Int)) (r_draft : (Int → Int)) (r_begun : (Int → Int)) (r_s : (Int → Int)) (r_past : (Int → Int)) (r_known : Int) (r_images : (Int → Int)) (r_kept : Int) (r_rings : (Int → Int)) (r_rung : Int) (r_at : Int) (r_states : (Int → Int)) (r_held : (Int → Int)) (r_here : (Int → Int)) (r_there : (Int → Int)) (h_r_text : z_r r_text) (h_r_typed : z_n r_typed) (h_r_told : z_r r_told) (h_r_draft : z_r r_draft) (h_r_begun : z_r r_begun) (h_r_s : z_r r_s) (h_r_past : z_r r_past) (h_r_known : z_n r_known) (h_r_images : z_r r_images) (h_r_kept : z_n r_kept) (h_r_rings : z_r r_rings) (h_r_rung : z_n r_rung) (h_r_at : z_n r_at) (h_r_states : z_r r_states) (h_r_held : z_r r_held) (h_r_here : z_r r_here) (h_r_there : z_r r_there) (rr : Int) (hm : m_X6_lowest N r_told r_s = some (rr)) : z_M l G yX6_lowest cX6_lowest 3 (some .int) (k2_rm 1 20) [.ref r_o] ([(r_o, z_o 6 [.ref r_Atext, z_i r_typed, .ref r_Atold, .ref r_Adraft, .ref r_Abegun, .ref r_As, .ref r_Apast, z_i r_known, .ref r_Aimages, z_i r_kept, .ref r_Arings, z_i r_rung, z_i r_at, .ref r_Astates, .ref r_Aheld, .ref r_Ahere, .ref r_Athere]), (r_Atext, z_a G.2.1 200 r_text), (r_Atold, z_a G.2.1 39 r_told), (r_Adraft, z_a G.2.1 39 r_draft), (r_Abegun, z_a G.2.1 73 r_begun), (r_As, z_a G.2.1 73 r_s), (r_Apast, z_a G.2.1 584 r_past), (r_Aimages, z_a G.2.1 146 r_images), (r_Arings, z_a G.2.1 6 r_rings), (r_Astates, z_a G.2.1 36 r_states), (r_Aheld, z_a G.2.1 73 r_held), (r_Ahere, z_a G.2.2.2.2 36 r_here), (r_Athere, z_a G.2.2.2.2 36 r_there)]) 0 0 (fun v w => v = some (z_i rr) ∧ w = [(r_o, z_o 6 [.ref r_Atext, z_i r_typed, .ref r_Atold, .ref r_Adraft, .ref r_Abegun, .ref r_As, .ref r_Apast, z_i r_known, .ref r_Aimages, z_i r_kept, .ref r_Arings, z_i r_rung, z_i r_at, .ref r_Astates, .ref r_Aheld, .ref r_Ahere, .ref r_Athere]), (r_Atext, z_a G.2.1 200 r_text), (r_Atold, z_a G.2.1 39 r_told), (r_Adraft, z_a G.2.1 39 r_draft), (r_Abegun, z_a G.2.1 73 r_begun), (r_As, z_a G.2.1 73 r_s), (r_Apast, z_a G.2.1 584 r_past), (r_Aimages, z_a G.2.1 146 r_images), (r_Arings, z_a G.2.1 6 r_rings), (r_Astates, z_a G.2.1 36 r_states), (r_Aheld, z_a G.2.1 73 r_held), (r_Ahere, z_a G.2.2.2.2 36 r_here), (r_Athere, z_a G.2.2.2.2 36 r_there)] ∧ z_n rr ∧ True) := by
  unfold m_X6_lowest at hm
  refine z_M.intro (by decide +kernel) (Nat.le_of_ble_eq_true rfl) (L := [(0, .ref r_o)]) rfl (fun X C E => ?_)
  refine z_bipush C dX6_lowest_0 (by decide) ?_
  refine z_istore_n C dX6_lowest_2 (by decide) (L' := [(1, z_i (-4)), (0, .ref r_o)]) rfl ?_
  refine z_aload_n C dX6_lowest_3 1 rfl ?_
  obtain ⟨r1, k2, hm⟩ := z_b1s hm
  refine z_callVid C (k_X6_cells l G N r_o r_Atext r_Atold r_Adraft r_Abegun r_As r_Apast r_Aimages r_Arings r_Astates r_Aheld r_Ahere r_Athere r_text r_typed r_told r_draft r_begun r_s r_past r_known r_images r_kept r_rings r_rung r_at r_states r_held r_here r_there h_r_text h_r_typed h_r_told h_r_draft h_r_begun h_r_s h_r_past h_r_known h_r_images h_r_kept h_r_rings h_r_rung h_r_at h_r_states h_r_held h_r_here h_r_there r1 k2) zv_X6_cells zl_X6_53 dX6_lowest_4 rfl 0 rfl rfl rfl [] rfl (Nat.le_of_ble_eq_true rfl) ⟨Nat.le_of_ble_eq_true rfl, Nat.le_of_ble_eq_true rfl⟩ ⟨rfl, rfl⟩ ⟨Nat.zero_le _, Nat.zero_le _⟩ (fun hF => ?_)
  obtain ⟨h_r1, -⟩ := hF
  refine z_iconst C dX6_lowest_7 ?_
  obtain ⟨c3, hm⟩ := z_chk_some hm
  refine z_isub C dX6_lowest_8 ?_
  refine z_istore_n C dX6_lowest_9 (by decide) (L' := [(2, z_i (r1 - 1)), (1, z_i (-4)), (0, .ref r_o)]) rfl ?_
  obtain ⟨o1_1, hl, hm⟩ := z_b1s hm
  have JX1 : z_n o1_1 → z_J X 0 0 ([(r_o, z_o 6 [.ref r_Atext, z_i r_typed, .ref r_Atold, .ref r_Adraft, .ref r_Abegun, .ref r_As, .ref r_Apast, z_i r_known, .ref r_Aimages, z_i r_kept, .ref r_Arings, z_i r_rung, z_i r_at, .ref r_Astates, .ref r_Aheld, .ref r_Ahere, .ref r_Athere]), (r_Atext, z_a G.2.1 200 r_text), (r_Atold, z_a G.2.1 39 r_told), (r_Adraft, z_a G.2.1 39 r_draft), (r_Abegun, z_a G.2.1 73 r_begun), (r_As, z_a G.2.1 73 r_s), (r_Apast, z_a G.2.1 584 r_past), (r_Aimages, z_a G.2.1 146 r_images), (r_Arings, z_a G.2.1 6 r_rings), (r_Astates, z_a G.2.1 36 r_states), (r_Aheld, z_a G.2.1 73 r_held), (r_Ahere, z_a G.2.2.2.2 36 r_here), (r_Athere, z_a G.2.2.2.2 36 r_there)]) [(1, z_i o1_1)] 35 [] := by
    intro h_o1_1
    clear hl
    refine z_iload_n C dX6_lowest_35 0 rfl ?_
    cases hm
    exact z_iret C E dX6_lowest_36 ⟨rfl, rfl, h_o1_1, trivial⟩
  clear hm
  have L1 : ∀ (n1 : Nat) (v1_1 : Int) (v2_1 : Int), z_n v1_1 → z_n v2_1 → m_X6_lowest_l1 N r_s n1 v1_1 v2_1 = some (o1_1) → z_J X 0 0 ([(r_o, z_o 6 [.ref r_Atext, z_i r_typed, .ref r_Atold, .ref r_Adraft, .ref r_Abegun, .ref r_As, .ref r_Apast, z_i r_known, .ref r_Aimages, z_i r_kept, .ref r_Arings, z_i r_rung, z_i r_at, .ref r_Astates, .ref r_Aheld, .ref r_Ahere, .ref r_Athere]), (r_Atext, z_a G.2.1 200 r_text), (r_Atold, z_a G.2.1 39 r_told), (r_Adraft, z_a G.2.1 39 r_draft), (r_Abegun, z_a G.2.1 73 r_begun), (r_As, z_a G.2.1 73 r_s), (r_Apast, z_a G.2.1 584 r_past), (r_Aimages, z_a G.2.1 146 r_images), (r_Arings, z_a G.2.1 6 r_rings), (r_Astates, z_a G.2.1 36 r_states), (r_Aheld, z_a G.2.1 73 r_held), (r_Ahere, z_a G.2.2.2.2 36 r_here), (r_Athere, z_a G.2.2.2.2 36 r_there)]) [(0, .ref r_o), (1, z_i v1_1), (2, z_i v2_1)] 10 [] := by
    clear hl
    intro n1
    induction n1 with
    | zero =>
      intro v1_1 v2_1 h_v1_1 h_v2_1 hm
      rw [m_X6_lowest_l1] at hm
      cases hm
    | succ n1 ih1 =>
      intro v1_1 v2_1 h_v1_1 h_v2_1 hm
      rw [m_X6_lowest_l1] at hm
      refine z_iload_n C dX6_lowest_10 2 rfl ?_
      refine z_if_lt (tgt := 35) C h_v2_1 dX6_lowest_11 (by decide) (fun c4 => ?_) (fun c4 => ?_)
      · have hm := z_pos c4 hm
        refine z_sub (L' := [(1, z_i v1_1)]) [1] rfl ?_
        cases hm
        exact JX1 h_v1_1
      · have hm := z_neg c4 hm
        refine z_aload_n C dX6_lowest_14 0 rfl ?_
        refine z_get C zf_X6_22 dX6_lowest_15 0 rfl rfl ?_
        refine z_iload_n C dX6_lowest_18 2 rfl ?_
        obtain ⟨c5, hm⟩ := z_chk_some hm
        refine z_iald C dX6_lowest_19 5 rfl c5 h_v2_1 ?_
        refine z_if_le (tgt := 27) C (h_r_s _) dX6_lowest_20 (by decide) (fun c6 => ?_) (fun c6 => ?_)
        · have hm := z_pos c6 hm
          refine z_iload_n C dX6_lowest_27 1 rfl ?_
          refine z_istore_n C dX6_lowest_28 (by decide) (L' := [(1, z_i v1_1), (0, .ref r_o), (2, z_i v2_1)]) rfl ?_
          obtain ⟨c7, hm⟩ := z_chk_some hm
          refine z_iinc C dX6_lowest_29 2 rfl (by decide) (L' := [(2, z_i (v2_1 + (-1))), (1, z_i v1_1), (0, .ref r_o)]) rfl ?_
          refine z_goto (tgt := 10) C dX6_lowest_32 (by decide) ?_
          refine z_sub (L' := [(0, .ref r_o), (1, z_i v1_1), (2, z_i (v2_1 + (-1)))]) [2, 1, 0] rfl ?_
          exact ih1 v1_1 (v2_1 + (-1)) h_v1_1 c7 hm
        · have hm := z_neg c6 hm
          refine z_iload_n C dX6_lowest_23 2 rfl ?_
          refine z_goto (tgt := 28) C dX6_lowest_24 (by decide) ?_
          refine z_istore_n C dX6_lowest_28 (by decide) (L' := [(1, z_i v2_1), (0, .ref r_o), (2, z_i v2_1)]) rfl ?_
          obtain ⟨c8, hm⟩ := z_chk_some hm
          refine z_iinc C dX6_lowest_29 2 rfl (by decide) (L' := [(2, z_i (v2_1 + (-1))), (1, z_i v2_1), (0, .ref r_o)]) rfl ?_
          refine z_goto (tgt := 10) C dX6_lowest_32 (by decide) ?_
          refine z_sub (L' := [(0, .ref r_o), (1, z_i v2_1), (2, z_i (v2_1 + (-1)))]) [2, 1, 0] rfl ?_
          exact ih1 v2_1 (v2_1 + (-1)) h_v2_1 c8 hm
  refine z_sub (L' := [(0, .ref r_o), (1, z_i (-4)), (2, z_i (r1 - 1))]) [2, 1, 0] rfl ?_
  exact L1 N (-4) (r1 - 1) (z_k (-4) rfl) c3 hl
