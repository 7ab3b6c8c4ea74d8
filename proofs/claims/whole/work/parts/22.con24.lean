set_option maxRecDepth 100000 in
theorem k_X6_way (l : Launch) (G : z_G) (N : Nat) (r_o r_Atext r_Atold r_Adraft r_Abegun r_As r_Apast r_Aimages r_Arings r_Astates r_Aheld r_Ahere r_Athere : Nat) (r_text : (Int → Int)) (r_typed : Int) (r_told : (Int → Int)) (r_draft : (Int → Int)) (r_begun : (Int → Int)) (r_s : (Int → Int)) (r_past : (Int → Int)) (r_known : Int) (r_images : (Int → Int)) (r_kept : Int) (r_rings : (Int → Int)) (r_rung : Int) (r_at : Int) (r_states : (Int → Int)) (r_held : (Int → Int)) (r_here : (Int → Int)) (r_there : (Int → Int)) (x1 : Int) (x2 : Int) (h_r_text : z_r r_text) (h_r_typed : z_n r_typed) (h_r_told : z_r r_told) (h_r_draft : z_r r_draft) (h_r_begun : z_r r_begun) (h_r_s : z_r r_s) (h_r_past : z_r r_past) (h_r_known : z_n r_known) (h_r_images : z_r r_images) (h_r_kept : z_n r_kept) (h_r_rings : z_r r_rings) (h_r_rung : z_n r_rung) (h_r_at : z_n r_at) (h_r_states : z_r r_states) (h_r_held : z_r r_held) (h_r_here : z_r r_here) (h_r_there : z_r r_there) (h_x1 : z_n x1) (h_x2 : z_n x2) (rr : Int) (q_r_s : (Int → Int)) (q_r_held : (Int → Int)) (q_r_here : (Int → Int)) (q_r_there : (Int → Int)) (hm : m_X6_way N r_told r_s r_held r_here r_there x1 x2 = some (rr, q_r_s, q_r_held, q_r_here, q_r_there)) : z_M l G yX6_way cX6_way 8 (some .int) (k2_rm 6 139) [.ref r_o, z_i x1, z_i x2] ([(r_o, z_o 6 [.ref r_Atext, z_i r_typed, .ref r_Atold, .ref r_Adraft, .ref r_Abegun, .ref r_As, .ref r_Apast, z_i r_known, .ref r_Aimages, z_i r_kept, .ref r_Arings, z_i r_rung, z_i r_at, .ref r_Astates, .ref r_Aheld, .ref r_Ahere, .ref r_Athere]), (r_Atext, z_a G.2.1 200 r_text), (r_Atold, z_a G.2.1 39 r_told), (r_Adraft, z_a G.2.1 39 r_draft), (r_Abegun, z_a G.2.1 73 r_begun), (r_As, z_a G.2.1 73 r_s), (r_Apast, z_a G.2.1 584 r_past), (r_Aimages, z_a G.2.1 146 r_images), (r_Arings, z_a G.2.1 6 r_rings), (r_Astates, z_a G.2.1 36 r_states), (r_Aheld, z_a G.2.1 73 r_held), (r_Ahere, z_a G.2.2.2.2 36 r_here), (r_Athere, z_a G.2.2.2.2 36 r_there)]) 0 0 (fun v w => v = some (z_i rr) ∧ w = [(r_o, z_o 6 [.ref r_Atext, z_i r_typed, .ref r_Atold, .ref r_Adraft, .ref r_Abegun, .ref r_As, .ref r_Apast, z_i r_known, .ref r_Aimages, z_i r_kept, .ref r_Arings, z_i r_rung, z_i r_at, .ref r_Astates, .ref r_Aheld, .ref r_Ahere, .ref r_Athere]), (r_Atext, z_a G.2.1 200 r_text), (r_Atold, z_a G.2.1 39 r_told), (r_Adraft, z_a G.2.1 39 r_draft), (r_Abegun, z_a G.2.1 73 r_begun), (r_As, z_a G.2.1 73 q_r_s), (r_Apast, z_a G.2.1 584 r_past), (r_Aimages, z_a G.2.1 146 r_images), (r_Arings, z_a G.2.1 6 r_rings), (r_Astates, z_a G.2.1 36 r_states), (r_Aheld, z_a G.2.1 73 q_r_held), (r_Ahere, z_a G.2.2.2.2 36 q_r_here), (r_Athere, z_a G.2.2.2.2 36 q_r_there)] ∧ z_n rr ∧ z_r q_r_s ∧ z_r q_r_held ∧ z_r q_r_here ∧ z_r q_r_there ∧ True) := by
  unfold m_X6_way at hm
  refine z_M.intro (by decide +kernel) (Nat.le_of_ble_eq_true rfl) (L := [(0, .ref r_o), (1, z_i x1), (2, z_i x2)]) rfl (fun X C E => ?_)
  refine z_aload_n C dX6_way_0 0 rfl ?_
  refine z_iload_n C dX6_way_1 1 rfl ?_
  obtain ⟨r1, k2, hm⟩ := z_b1s hm
  refine z_callVid C (k_X6_isCell l G N r_o r_Atext r_Atold r_Adraft r_Abegun r_As r_Apast r_Aimages r_Arings r_Astates r_Aheld r_Ahere r_Athere r_text r_typed r_told r_draft r_begun r_s r_past r_known r_images r_kept r_rings r_rung r_at r_states r_held r_here r_there x1 h_r_text h_r_typed h_r_told h_r_draft h_r_begun h_r_s h_r_past h_r_known h_r_images h_r_kept h_r_rings h_r_rung h_r_at h_r_states h_r_held h_r_here h_r_there h_x1 r1 k2) zv_X6_isCell zl_X6_98 dX6_way_2 rfl 0 rfl rfl rfl [] rfl (Nat.le_of_ble_eq_true rfl) ⟨Nat.le_of_ble_eq_true rfl, Nat.le_of_ble_eq_true rfl⟩ ⟨rfl, rfl⟩ ⟨Nat.zero_le _, Nat.zero_le _⟩ (fun hF => ?_)
  obtain ⟨hb_r1, -⟩ := hF
  refine z_if_eq (tgt := 16) C (z_n01 hb_r1) dX6_way_5 (by decide) (fun c3 => ?_) (fun c3 => ?_)
  · have hm := z_pos c3 hm
    refine z_iconst C dX6_way_16 ?_
    cases hm
    exact z_iret C E dX6_way_17 ⟨rfl, rfl, (z_k (-1) rfl), h_r_s, h_r_held, h_r_here, h_r_there, trivial⟩
  · have hm := z_neg c3 hm
    refine z_aload_n C dX6_way_8 0 rfl ?_
    refine z_iload_n C dX6_way_9 2 rfl ?_
    obtain ⟨r4, k5, hm⟩ := z_b1s hm
    refine z_callVid C (k_X6_isCell l G N r_o r_Atext r_Atold r_Adraft r_Abegun r_As r_Apast r_Aimages r_Arings r_Astates r_Aheld r_Ahere r_Athere r_text r_typed r_told r_draft r_begun r_s r_past r_known r_images r_kept r_rings r_rung r_at r_states r_held r_here r_there x2 h_r_text h_r_typed h_r_told h_r_draft h_r_begun h_r_s h_r_past h_r_known h_r_images h_r_kept h_r_rings h_r_rung h_r_at h_r_states h_r_held h_r_here h_r_there h_x2 r4 k5) zv_X6_isCell zl_X6_98 dX6_way_10 rfl 0 rfl rfl rfl [] rfl (Nat.le_of_ble_eq_true rfl) ⟨Nat.le_of_ble_eq_true rfl, Nat.le_of_ble_eq_true rfl⟩ ⟨rfl, rfl⟩ ⟨Nat.zero_le _, Nat.zero_le _⟩ (fun hF => ?_)
    obtain ⟨hb_r4, -⟩ := hF
    refine z_if_ne (tgt := 18) C (z_n01 hb_r4) dX6_way_13 (by decide) (fun c6 => ?_) (fun c6 => ?_)
    · have hm := z_pos c6 hm
      refine z_aload_n C dX6_way_18 0 rfl ?_
      refine z_get C zf_X6_22 dX6_way_19 0 rfl rfl ?_
      refine z_iload_n C dX6_way_22 1 rfl ?_
      obtain ⟨c7, hm⟩ := z_chk_some hm
      refine z_iald C dX6_way_23 5 rfl c7 h_x1 ?_
      refine z_if_ne (tgt := 30) C (h_r_s _) dX6_way_24 (by decide) (fun c8 => ?_) (fun c8 => ?_)
      · have hm := z_pos c8 hm
        refine z_aload_n C dX6_way_30 0 rfl ?_
        obtain ⟨r_held_9, k10, hm⟩ := z_b1s hm
        refine z_callVvd C (k_X6_holds l G N r_o r_Atext r_Atold r_Adraft r_Abegun r_As r_Apast r_Aimages r_Arings r_Astates r_Aheld r_Ahere r_Athere r_text r_typed r_told r_draft r_begun r_s r_past r_known r_images r_kept r_rings r_rung r_at r_states r_held r_here r_there h_r_text h_r_typed h_r_told h_r_draft h_r_begun h_r_s h_r_past h_r_known h_r_images h_r_kept h_r_rings h_r_rung h_r_at h_r_states h_r_held h_r_here h_r_there r_held_9 k10) zv_X6_holds zl_X6_137 dX6_way_31 rfl 0 rfl rfl rfl [] rfl (Nat.le_of_ble_eq_true rfl) ⟨Nat.le_of_ble_eq_true rfl, Nat.le_of_ble_eq_true rfl⟩ ⟨rfl, rfl⟩ ⟨Nat.zero_le _, Nat.zero_le _⟩ (fun hF => ?_)
        obtain ⟨h_r_held_9, -⟩ := hF
        refine z_iconst C dX6_way_34 ?_
        refine z_istore_n C dX6_way_35 (by decide) (L' := [(3, z_i 0), (0, .ref r_o), (1, z_i x1), (2, z_i x2)]) rfl ?_
        obtain ⟨o_r_here_1, hl, hm⟩ := z_b1s hm
        have JX1 : z_r o_r_here_1 → z_J X 0 0 ([(r_o, z_o 6 [.ref r_Atext, z_i r_typed, .ref r_Atold, .ref r_Adraft, .ref r_Abegun, .ref r_As, .ref r_Apast, z_i r_known, .ref r_Aimages, z_i r_kept, .ref r_Arings, z_i r_rung, z_i r_at, .ref r_Astates, .ref r_Aheld, .ref r_Ahere, .ref r_Athere]), (r_Atext, z_a G.2.1 200 r_text), (r_Atold, z_a G.2.1 39 r_told), (r_Adraft, z_a G.2.1 39 r_draft), (r_Abegun, z_a G.2.1 73 r_begun), (r_As, z_a G.2.1 73 r_s), (r_Apast, z_a G.2.1 584 r_past), (r_Aimages, z_a G.2.1 146 r_images), (r_Arings, z_a G.2.1 6 r_rings), (r_Astates, z_a G.2.1 36 r_states), (r_Aheld, z_a G.2.1 73 r_held_9), (r_Ahere, z_a G.2.2.2.2 36 o_r_here_1), (r_Athere, z_a G.2.2.2.2 36 r_there)]) [(0, .ref r_o), (1, z_i x1), (2, z_i x2)] 66 [] := by
          intro h_o_r_here_1
          clear hl
          refine z_iload_n C dX6_way_66 1 rfl ?_
          refine z_iload_n C dX6_way_67 2 rfl ?_
          obtain ⟨s20, hj, hm⟩ := z_b1s hm
          have J21 : z_n s20 → z_J X 0 0 ([(r_o, z_o 6 [.ref r_Atext, z_i r_typed, .ref r_Atold, .ref r_Adraft, .ref r_Abegun, .ref r_As, .ref r_Apast, z_i r_known, .ref r_Aimages, z_i r_kept, .ref r_Arings, z_i r_rung, z_i r_at, .ref r_Astates, .ref r_Aheld, .ref r_Ahere, .ref r_Athere]), (r_Atext, z_a G.2.1 200 r_text), (r_Atold, z_a G.2.1 39 r_told), (r_Adraft, z_a G.2.1 39 r_draft), (r_Abegun, z_a G.2.1 73 r_begun), (r_As, z_a G.2.1 73 r_s), (r_Apast, z_a G.2.1 584 r_past), (r_Aimages, z_a G.2.1 146 r_images), (r_Arings, z_a G.2.1 6 r_rings), (r_Astates, z_a G.2.1 36 r_states), (r_Aheld, z_a G.2.1 73 r_held_9), (r_Ahere, z_a G.2.2.2.2 36 o_r_here_1), (r_Athere, z_a G.2.2.2.2 36 r_there)]) [(0, .ref r_o), (2, z_i x2)] 77 [z_i s20] := by
            intro h_s20
            clear hj
            refine z_istore_n C dX6_way_77 (by decide) (L' := [(3, z_i s20), (0, .ref r_o), (2, z_i x2)]) rfl ?_
            refine z_iconst C dX6_way_78 ?_
            refine z_istore C dX6_way_79 (by decide) (L' := [(4, z_i 1), (3, z_i s20), (0, .ref r_o), (2, z_i x2)]) rfl ?_
            obtain ⟨o3_2, o_r_s_2, o_r_here_2, o_r_there_2, hl, hm⟩ := z_b4s hm
            have JX2 : z_n o3_2 → z_r o_r_s_2 → z_r o_r_here_2 → z_r o_r_there_2 → z_J X 0 0 ([(r_o, z_o 6 [.ref r_Atext, z_i r_typed, .ref r_Atold, .ref r_Adraft, .ref r_Abegun, .ref r_As, .ref r_Apast, z_i r_known, .ref r_Aimages, z_i r_kept, .ref r_Arings, z_i r_rung, z_i r_at, .ref r_Astates, .ref r_Aheld, .ref r_Ahere, .ref r_Athere]), (r_Atext, z_a G.2.1 200 r_text), (r_Atold, z_a G.2.1 39 r_told), (r_Adraft, z_a G.2.1 39 r_draft), (r_Abegun, z_a G.2.1 73 r_begun), (r_As, z_a G.2.1 73 o_r_s_2), (r_Apast, z_a G.2.1 584 r_past), (r_Aimages, z_a G.2.1 146 r_images), (r_Arings, z_a G.2.1 6 r_rings), (r_Astates, z_a G.2.1 36 r_states), (r_Aheld, z_a G.2.1 73 r_held_9), (r_Ahere, z_a G.2.2.2.2 36 o_r_here_2), (r_Athere, z_a G.2.2.2.2 36 o_r_there_2)]) [(0, .ref r_o), (3, z_i o3_2)] 297 [] := by
              intro h_o3_2 h_o_r_s_2 h_o_r_here_2 h_o_r_there_2
              clear hl
              refine z_aload_n C dX6_way_297 0 rfl ?_
              obtain ⟨r_s_75, k76, hm⟩ := z_b1s hm
              refine z_callVvd C (k_X6_lets l G N r_o r_Atext r_Atold r_Adraft r_Abegun r_As r_Apast r_Aimages r_Arings r_Astates r_Aheld r_Ahere r_Athere r_text r_typed r_told r_draft r_begun o_r_s_2 r_past r_known r_images r_kept r_rings r_rung r_at r_states r_held_9 o_r_here_2 o_r_there_2 h_r_text h_r_typed h_r_told h_r_draft h_r_begun h_o_r_s_2 h_r_past h_r_known h_r_images h_r_kept h_r_rings h_r_rung h_r_at h_r_states h_r_held_9 h_o_r_here_2 h_o_r_there_2 r_s_75 k76) zv_X6_lets zl_X6_140 dX6_way_298 rfl 0 rfl rfl rfl [] rfl (Nat.le_of_ble_eq_true rfl) ⟨Nat.le_of_ble_eq_true rfl, Nat.le_of_ble_eq_true rfl⟩ ⟨rfl, rfl⟩ ⟨Nat.zero_le _, Nat.zero_le _⟩ (fun hF => ?_)
              obtain ⟨h_r_s_75, -⟩ := hF
              refine z_iload_n C dX6_way_301 1 rfl ?_
              cases hm
              exact z_iret C E dX6_way_302 ⟨rfl, rfl, h_o3_2, h_r_s_75, h_r_held_9, h_o_r_here_2, h_o_r_there_2, trivial⟩
            clear hm
            have L2 : ∀ (n2 : Nat) (v3_2 : Int) (v4_2 : Int) (r_s_2 : (Int → Int)) (r_here_2 : (Int → Int)) (r_there_2 : (Int → Int)), z_n v3_2 → z_n v4_2 → z_r r_s_2 → z_r r_here_2 → z_r r_there_2 → m_X6_way_l2 N r_told x2 n2 v3_2 v4_2 r_s_2 r_here_2 r_there_2 = some (o3_2, o_r_s_2, o_r_here_2, o_r_there_2) → z_J X 0 0 ([(r_o, z_o 6 [.ref r_Atext, z_i r_typed, .ref r_Atold, .ref r_Adraft, .ref r_Abegun, .ref r_As, .ref r_Apast, z_i r_known, .ref r_Aimages, z_i r_kept, .ref r_Arings, z_i r_rung, z_i r_at, .ref r_Astates, .ref r_Aheld, .ref r_Ahere, .ref r_Athere]), (r_Atext, z_a G.2.1 200 r_text), (r_Atold, z_a G.2.1 39 r_told), (r_Adraft, z_a G.2.1 39 r_draft), (r_Abegun, z_a G.2.1 73 r_begun), (r_As, z_a G.2.1 73 r_s_2), (r_Apast, z_a G.2.1 584 r_past), (r_Aimages, z_a G.2.1 146 r_images), (r_Arings, z_a G.2.1 6 r_rings), (r_Astates, z_a G.2.1 36 r_states), (r_Aheld, z_a G.2.1 73 r_held_9), (r_Ahere, z_a G.2.2.2.2 36 r_here_2), (r_Athere, z_a G.2.2.2.2 36 r_there_2)]) [(0, .ref r_o), (2, z_i x2), (3, z_i v3_2), (4, z_i v4_2)] 81 [] := by
              clear hl
              intro n2
              induction n2 with
              | zero =>
                intro v3_2 v4_2 r_s_2 r_here_2 r_there_2 h_v3_2 h_v4_2 h_r_s_2 h_r_here_2 h_r_there_2 hm
                rw [m_X6_way_l2] at hm
                cases hm
              | succ n2 ih2 =>
                intro v3_2 v4_2 r_s_2 r_here_2 r_there_2 h_v3_2 h_v4_2 h_r_s_2 h_r_here_2 h_r_there_2 hm
                rw [m_X6_way_l2] at hm
                refine z_iload C dX6_way_81 3 rfl ?_
                refine z_bipush C dX6_way_83 (by decide) ?_
                refine z_icmp_ge (tgt := 297) C h_v4_2 (z_k 41 rfl) dX6_way_85 (by decide) (fun c22 => ?_) (fun c22 => ?_)
                · have hm := z_pos c22 hm
                  refine z_sub (L' := [(0, .ref r_o), (3, z_i v3_2)]) [0, 2] rfl ?_
                  cases hm
                  exact JX2 h_v3_2 h_r_s_2 h_r_here_2 h_r_there_2
                · have hm := z_neg c22 hm
                  refine z_iload_n C dX6_way_88 2 rfl ?_
                  refine z_bipush C dX6_way_89 (by decide) ?_
                  refine z_icmp_ne (tgt := 297) C h_v3_2 (z_k (-4) rfl) dX6_way_91 (by decide) (fun c23 => ?_) (fun c23 => ?_)
                  · have hm := z_pos c23 hm
                    refine z_sub (L' := [(0, .ref r_o), (3, z_i v3_2)]) [0, 2] rfl ?_
                    cases hm
                    exact JX2 h_v3_2 h_r_s_2 h_r_here_2 h_r_there_2
                  · have hm := z_neg c23 hm
                    refine z_iconst C dX6_way_94 ?_
                    refine z_istore C dX6_way_95 (by decide) (L' := [(5, z_i 0), (0, .ref r_o), (2, z_i x2), (3, z_i v3_2), (4, z_i v4_2)]) rfl ?_
                    obtain ⟨o_r_there_3, hl, hm⟩ := z_b1s hm
                    have JX3 : z_r o_r_there_3 → z_J X 0 0 ([(r_o, z_o 6 [.ref r_Atext, z_i r_typed, .ref r_Atold, .ref r_Adraft, .ref r_Abegun, .ref r_As, .ref r_Apast, z_i r_known, .ref r_Aimages, z_i r_kept, .ref r_Arings, z_i r_rung, z_i r_at, .ref r_Astates, .ref r_Aheld, .ref r_Ahere, .ref r_Athere]), (r_Atext, z_a G.2.1 200 r_text), (r_Atold, z_a G.2.1 39 r_told), (r_Adraft, z_a G.2.1 39 r_draft), (r_Abegun, z_a G.2.1 73 r_begun), (r_As, z_a G.2.1 73 r_s_2), (r_Apast, z_a G.2.1 584 r_past), (r_Aimages, z_a G.2.1 146 r_images), (r_Arings, z_a G.2.1 6 r_rings), (r_Astates, z_a G.2.1 36 r_states), (r_Aheld, z_a G.2.1 73 r_held_9), (r_Ahere, z_a G.2.2.2.2 36 r_here_2), (r_Athere, z_a G.2.2.2.2 36 o_r_there_3)]) [(0, .ref r_o), (2, z_i x2), (4, z_i v4_2)] 220 [] := by
                      intro h_o_r_there_3
                      clear hl
                      refine z_aload_n C dX6_way_220 0 rfl ?_
                      obtain ⟨r_s_56, k57, hm⟩ := z_b1s hm
                      refine z_callVvd C (k_X6_shines l G N r_o r_Atext r_Atold r_Adraft r_Abegun r_As r_Apast r_Aimages r_Arings r_Astates r_Aheld r_Ahere r_Athere r_text r_typed r_told r_draft r_begun r_s_2 r_past r_known r_images r_kept r_rings r_rung r_at r_states r_held_9 r_here_2 o_r_there_3 h_r_text h_r_typed h_r_told h_r_draft h_r_begun h_r_s_2 h_r_past h_r_known h_r_images h_r_kept h_r_rings h_r_rung h_r_at h_r_states h_r_held_9 h_r_here_2 h_o_r_there_3 r_s_56 k57) zv_X6_shines zl_X6_134 dX6_way_221 rfl 0 rfl rfl rfl [] rfl (Nat.le_of_ble_eq_true rfl) ⟨Nat.le_of_ble_eq_true rfl, Nat.le_of_ble_eq_true rfl⟩ ⟨rfl, rfl⟩ ⟨Nat.zero_le _, Nat.zero_le _⟩ (fun hF => ?_)
                      obtain ⟨h_r_s_56, -⟩ := hF
                      refine z_iconst C dX6_way_224 ?_
                      refine z_istore C dX6_way_225 (by decide) (L' := [(5, z_i 0), (0, .ref r_o), (2, z_i x2), (4, z_i v4_2)]) rfl ?_
                      obtain ⟨o_r_here_5, hl, hm⟩ := z_b1s hm
                      have JX5 : z_r o_r_here_5 → z_J X 0 0 ([(r_o, z_o 6 [.ref r_Atext, z_i r_typed, .ref r_Atold, .ref r_Adraft, .ref r_Abegun, .ref r_As, .ref r_Apast, z_i r_known, .ref r_Aimages, z_i r_kept, .ref r_Arings, z_i r_rung, z_i r_at, .ref r_Astates, .ref r_Aheld, .ref r_Ahere, .ref r_Athere]), (r_Atext, z_a G.2.1 200 r_text), (r_Atold, z_a G.2.1 39 r_told), (r_Adraft, z_a G.2.1 39 r_draft), (r_Abegun, z_a G.2.1 73 r_begun), (r_As, z_a G.2.1 73 r_s_56), (r_Apast, z_a G.2.1 584 r_past), (r_Aimages, z_a G.2.1 146 r_images), (r_Arings, z_a G.2.1 6 r_rings), (r_Astates, z_a G.2.1 36 r_states), (r_Aheld, z_a G.2.1 73 r_held_9), (r_Ahere, z_a G.2.2.2.2 36 o_r_here_5), (r_Athere, z_a G.2.2.2.2 36 o_r_there_3)]) [(0, .ref r_o), (2, z_i x2), (4, z_i v4_2)] 274 [] := by
                        intro h_o_r_here_5
                        clear hl
                        refine z_aload_n C dX6_way_274 0 rfl ?_
                        refine z_get C zf_X6_40 dX6_way_275 0 rfl rfl ?_
                        refine z_iload_n C dX6_way_278 1 rfl ?_
                        obtain ⟨c71, hm⟩ := z_chk_some hm
                        refine z_zald C dX6_way_279 11 rfl c71 h_x2 ?_
                        refine z_if_eq (tgt := 288) C (h_o_r_here_5 _) dX6_way_280 (by decide) (fun c72 => ?_) (fun c72 => ?_)
                        · have hm := z_pos c72 hm
                          refine z_bipush C dX6_way_288 (by decide) ?_
                          refine z_istore_n C dX6_way_290 (by decide) (L' := [(3, z_i (-4)), (0, .ref r_o), (2, z_i x2), (4, z_i v4_2)]) rfl ?_
                          obtain ⟨c73, hm⟩ := z_chk_some hm
                          refine z_iinc C dX6_way_291 3 rfl (by decide) (L' := [(4, z_i (v4_2 + 1)), (3, z_i (-4)), (0, .ref r_o), (2, z_i x2)]) rfl ?_
                          refine z_goto (tgt := 81) C dX6_way_294 (by decide) ?_
                          refine z_sub (L' := [(0, .ref r_o), (2, z_i x2), (3, z_i (-4)), (4, z_i (v4_2 + 1))]) [2, 3, 1, 0] rfl ?_
                          exact ih2 (-4) (v4_2 + 1) r_s_56 o_r_here_5 o_r_there_3 (z_k (-4) rfl) c73 h_r_s_56 h_o_r_here_5 h_o_r_there_3 hm
                        · have hm := z_neg c72 hm
                          refine z_iload C dX6_way_283 2 rfl ?_
                          refine z_goto (tgt := 290) C dX6_way_285 (by decide) ?_
                          refine z_istore_n C dX6_way_290 (by decide) (L' := [(3, z_i v4_2), (0, .ref r_o), (2, z_i x2), (4, z_i v4_2)]) rfl ?_
                          obtain ⟨c74, hm⟩ := z_chk_some hm
                          refine z_iinc C dX6_way_291 3 rfl (by decide) (L' := [(4, z_i (v4_2 + 1)), (3, z_i v4_2), (0, .ref r_o), (2, z_i x2)]) rfl ?_
                          refine z_goto (tgt := 81) C dX6_way_294 (by decide) ?_
                          refine z_sub (L' := [(0, .ref r_o), (2, z_i x2), (3, z_i v4_2), (4, z_i (v4_2 + 1))]) [2, 3, 1, 0] rfl ?_
                          exact ih2 v4_2 (v4_2 + 1) r_s_56 o_r_here_5 o_r_there_3 h_v4_2 c74 h_r_s_56 h_o_r_here_5 h_o_r_there_3 hm
                      clear hm
                      have L5 : ∀ (n5 : Nat) (v5_5 : Int) (r_here_5 : (Int → Int)), z_n v5_5 → z_r r_here_5 → m_X6_way_l5 N r_told o_r_there_3 r_s_56 n5 v5_5 r_here_5 = some (o_r_here_5) → z_J X 0 0 ([(r_o, z_o 6 [.ref r_Atext, z_i r_typed, .ref r_Atold, .ref r_Adraft, .ref r_Abegun, .ref r_As, .ref r_Apast, z_i r_known, .ref r_Aimages, z_i r_kept, .ref r_Arings, z_i r_rung, z_i r_at, .ref r_Astates, .ref r_Aheld, .ref r_Ahere, .ref r_Athere]), (r_Atext, z_a G.2.1 200 r_text), (r_Atold, z_a G.2.1 39 r_told), (r_Adraft, z_a G.2.1 39 r_draft), (r_Abegun, z_a G.2.1 73 r_begun), (r_As, z_a G.2.1 73 r_s_56), (r_Apast, z_a G.2.1 584 r_past), (r_Aimages, z_a G.2.1 146 r_images), (r_Arings, z_a G.2.1 6 r_rings), (r_Astates, z_a G.2.1 36 r_states), (r_Aheld, z_a G.2.1 73 r_held_9), (r_Ahere, z_a G.2.2.2.2 36 r_here_5), (r_Athere, z_a G.2.2.2.2 36 o_r_there_3)]) [(0, .ref r_o), (2, z_i x2), (4, z_i v4_2), (5, z_i v5_5)] 227 [] := by
                        clear hl
                        intro n5
                        induction n5 with
                        | zero =>
                          intro v5_5 r_here_5 h_v5_5 h_r_here_5 hm
                          rw [m_X6_way_l5] at hm
                          cases hm
                        | succ n5 ih5 =>
                          intro v5_5 r_here_5 h_v5_5 h_r_here_5 hm
                          rw [m_X6_way_l5] at hm
                          refine z_iload C dX6_way_227 3 rfl ?_
                          refine z_aload_n C dX6_way_229 0 rfl ?_
                          obtain ⟨r58, k59, hm⟩ := z_b1s hm
                          refine z_callVid C (k_X6_cells l G N r_o r_Atext r_Atold r_Adraft r_Abegun r_As r_Apast r_Aimages r_Arings r_Astates r_Aheld r_Ahere r_Athere r_text r_typed r_told r_draft r_begun r_s_56 r_past r_known r_images r_kept r_rings r_rung r_at r_states r_held_9 r_here_5 o_r_there_3 h_r_text h_r_typed h_r_told h_r_draft h_r_begun h_r_s_56 h_r_past h_r_known h_r_images h_r_kept h_r_rings h_r_rung h_r_at h_r_states h_r_held_9 h_r_here_5 h_o_r_there_3 r58 k59) zv_X6_cells zl_X6_53 dX6_way_230 rfl 0 rfl rfl rfl [z_i v5_5] rfl (Nat.le_of_ble_eq_true rfl) ⟨Nat.le_of_ble_eq_true rfl, Nat.le_of_ble_eq_true rfl⟩ ⟨rfl, rfl⟩ ⟨Nat.zero_le _, Nat.zero_le _⟩ (fun hF => ?_)
                          obtain ⟨h_r58, -⟩ := hF
                          refine z_icmp_ge (tgt := 274) C h_v5_5 h_r58 dX6_way_233 (by decide) (fun c60 => ?_) (fun c60 => ?_)
                          · have hm := z_pos c60 hm
                            refine z_sub (L' := [(0, .ref r_o), (2, z_i x2), (4, z_i v4_2)]) [0, 1, 2] rfl ?_
                            cases hm
                            exact JX5 h_r_here_5
                          · have hm := z_neg c60 hm
                            refine z_aload_n C dX6_way_236 0 rfl ?_
                            refine z_get C zf_X6_40 dX6_way_237 0 rfl rfl ?_
                            refine z_iload C dX6_way_240 3 rfl ?_
                            refine z_aload_n C dX6_way_242 0 rfl ?_
                            refine z_get C zf_X6_44 dX6_way_243 0 rfl rfl ?_
                            refine z_iload C dX6_way_246 3 rfl ?_
                            obtain ⟨c61, hm⟩ := z_chk_some hm
                            refine z_zald C dX6_way_248 12 rfl c61 h_v5_5 ?_
                            refine z_if_eq (tgt := 266) C (h_o_r_there_3 _) dX6_way_249 (by decide) (fun c62 => ?_) (fun c62 => ?_)
                            · have hm := z_pos c62 hm
                              refine z_iconst C dX6_way_266 ?_
                              obtain ⟨c63, hm⟩ := z_chk_some hm
                              refine z_zast C dX6_way_267 11 rfl c63 h_v5_5 (Or.inl rfl) (ws' := [(r_o, z_o 6 [.ref r_Atext, z_i r_typed, .ref r_Atold, .ref r_Adraft, .ref r_Abegun, .ref r_As, .ref r_Apast, z_i r_known, .ref r_Aimages, z_i r_kept, .ref r_Arings, z_i r_rung, z_i r_at, .ref r_Astates, .ref r_Aheld, .ref r_Ahere, .ref r_Athere]), (r_Atext, z_a G.2.1 200 r_text), (r_Atold, z_a G.2.1 39 r_told), (r_Adraft, z_a G.2.1 39 r_draft), (r_Abegun, z_a G.2.1 73 r_begun), (r_As, z_a G.2.1 73 r_s_56), (r_Apast, z_a G.2.1 584 r_past), (r_Aimages, z_a G.2.1 146 r_images), (r_Arings, z_a G.2.1 6 r_rings), (r_Astates, z_a G.2.1 36 r_states), (r_Aheld, z_a G.2.1 73 r_held_9), (r_Ahere, z_a G.2.2.2.2 36 (z_up r_here_5 v5_5 0)), (r_Athere, z_a G.2.2.2.2 36 o_r_there_3)]) rfl ?_
                              obtain ⟨c64, hm⟩ := z_chk_some hm
                              refine z_iinc C dX6_way_268 3 rfl (by decide) (L' := [(5, z_i (v5_5 + 1)), (0, .ref r_o), (2, z_i x2), (4, z_i v4_2)]) rfl ?_
                              refine z_goto (tgt := 227) C dX6_way_271 (by decide) ?_
                              refine z_sub (L' := [(0, .ref r_o), (2, z_i x2), (4, z_i v4_2), (5, z_i (v5_5 + 1))]) [1, 2, 3, 0] rfl ?_
                              exact ih5 (v5_5 + 1) (z_up r_here_5 v5_5 0) c64 (z_r_up h_r_here_5 (z_k 0 rfl)) hm
                            · have hm := z_neg c62 hm
                              refine z_aload_n C dX6_way_252 0 rfl ?_
                              refine z_get C zf_X6_22 dX6_way_253 0 rfl rfl ?_
                              refine z_iload C dX6_way_256 3 rfl ?_
                              obtain ⟨c65, hm⟩ := z_chk_some hm
                              refine z_iald C dX6_way_258 5 rfl c65 h_v5_5 ?_
                              refine z_if_le (tgt := 266) C (h_r_s_56 _) dX6_way_259 (by decide) (fun c66 => ?_) (fun c66 => ?_)
                              · have hm := z_pos c66 hm
                                refine z_iconst C dX6_way_266 ?_
                                obtain ⟨c67, hm⟩ := z_chk_some hm
                                refine z_zast C dX6_way_267 11 rfl c67 h_v5_5 (Or.inl rfl) (ws' := [(r_o, z_o 6 [.ref r_Atext, z_i r_typed, .ref r_Atold, .ref r_Adraft, .ref r_Abegun, .ref r_As, .ref r_Apast, z_i r_known, .ref r_Aimages, z_i r_kept, .ref r_Arings, z_i r_rung, z_i r_at, .ref r_Astates, .ref r_Aheld, .ref r_Ahere, .ref r_Athere]), (r_Atext, z_a G.2.1 200 r_text), (r_Atold, z_a G.2.1 39 r_told), (r_Adraft, z_a G.2.1 39 r_draft), (r_Abegun, z_a G.2.1 73 r_begun), (r_As, z_a G.2.1 73 r_s_56), (r_Apast, z_a G.2.1 584 r_past), (r_Aimages, z_a G.2.1 146 r_images), (r_Arings, z_a G.2.1 6 r_rings), (r_Astates, z_a G.2.1 36 r_states), (r_Aheld, z_a G.2.1 73 r_held_9), (r_Ahere, z_a G.2.2.2.2 36 (z_up r_here_5 v5_5 0)), (r_Athere, z_a G.2.2.2.2 36 o_r_there_3)]) rfl ?_
                                obtain ⟨c68, hm⟩ := z_chk_some hm
                                refine z_iinc C dX6_way_268 3 rfl (by decide) (L' := [(5, z_i (v5_5 + 1)), (0, .ref r_o), (2, z_i x2), (4, z_i v4_2)]) rfl ?_
                                refine z_goto (tgt := 227) C dX6_way_271 (by decide) ?_
                                refine z_sub (L' := [(0, .ref r_o), (2, z_i x2), (4, z_i v4_2), (5, z_i (v5_5 + 1))]) [1, 2, 3, 0] rfl ?_
                                exact ih5 (v5_5 + 1) (z_up r_here_5 v5_5 0) c68 (z_r_up h_r_here_5 (z_k 0 rfl)) hm
                              · have hm := z_neg c66 hm
                                refine z_iconst C dX6_way_262 ?_
                                refine z_goto (tgt := 267) C dX6_way_263 (by decide) ?_
                                obtain ⟨c69, hm⟩ := z_chk_some hm
                                refine z_zast C dX6_way_267 11 rfl c69 h_v5_5 (Or.inr rfl) (ws' := [(r_o, z_o 6 [.ref r_Atext, z_i r_typed, .ref r_Atold, .ref r_Adraft, .ref r_Abegun, .ref r_As, .ref r_Apast, z_i r_known, .ref r_Aimages, z_i r_kept, .ref r_Arings, z_i r_rung, z_i r_at, .ref r_Astates, .ref r_Aheld, .ref r_Ahere, .ref r_Athere]), (r_Atext, z_a G.2.1 200 r_text), (r_Atold, z_a G.2.1 39 r_told), (r_Adraft, z_a G.2.1 39 r_draft), (r_Abegun, z_a G.2.1 73 r_begun), (r_As, z_a G.2.1 73 r_s_56), (r_Apast, z_a G.2.1 584 r_past), (r_Aimages, z_a G.2.1 146 r_images), (r_Arings, z_a G.2.1 6 r_rings), (r_Astates, z_a G.2.1 36 r_states), (r_Aheld, z_a G.2.1 73 r_held_9), (r_Ahere, z_a G.2.2.2.2 36 (z_up r_here_5 v5_5 1)), (r_Athere, z_a G.2.2.2.2 36 o_r_there_3)]) rfl ?_
                                obtain ⟨c70, hm⟩ := z_chk_some hm
                                refine z_iinc C dX6_way_268 3 rfl (by decide) (L' := [(5, z_i (v5_5 + 1)), (0, .ref r_o), (2, z_i x2), (4, z_i v4_2)]) rfl ?_
                                refine z_goto (tgt := 227) C dX6_way_271 (by decide) ?_
                                refine z_sub (L' := [(0, .ref r_o), (2, z_i x2), (4, z_i v4_2), (5, z_i (v5_5 + 1))]) [1, 2, 3, 0] rfl ?_
                                exact ih5 (v5_5 + 1) (z_up r_here_5 v5_5 1) c70 (z_r_up h_r_here_5 (z_k 1 rfl)) hm
                      refine z_sub (L' := [(0, .ref r_o), (2, z_i x2), (4, z_i v4_2), (5, z_i 0)]) [1, 2, 3, 0] rfl ?_
                      exact L5 N 0 r_here_2 (z_k 0 rfl) h_r_here_2 hl
                    clear hm
                    have L3 : ∀ (n3 : Nat) (v5_3 : Int) (r_there_3 : (Int → Int)), z_n v5_3 → z_r r_there_3 → m_X6_way_l3 N r_told r_here_2 r_s_2 n3 v5_3 r_there_3 = some (o_r_there_3) → z_J X 0 0 ([(r_o, z_o 6 [.ref r_Atext, z_i r_typed, .ref r_Atold, .ref r_Adraft, .ref r_Abegun, .ref r_As, .ref r_Apast, z_i r_known, .ref r_Aimages, z_i r_kept, .ref r_Arings, z_i r_rung, z_i r_at, .ref r_Astates, .ref r_Aheld, .ref r_Ahere, .ref r_Athere]), (r_Atext, z_a G.2.1 200 r_text), (r_Atold, z_a G.2.1 39 r_told), (r_Adraft, z_a G.2.1 39 r_draft), (r_Abegun, z_a G.2.1 73 r_begun), (r_As, z_a G.2.1 73 r_s_2), (r_Apast, z_a G.2.1 584 r_past), (r_Aimages, z_a G.2.1 146 r_images), (r_Arings, z_a G.2.1 6 r_rings), (r_Astates, z_a G.2.1 36 r_states), (r_Aheld, z_a G.2.1 73 r_held_9), (r_Ahere, z_a G.2.2.2.2 36 r_here_2), (r_Athere, z_a G.2.2.2.2 36 r_there_3)]) [(0, .ref r_o), (2, z_i x2), (4, z_i v4_2), (5, z_i v5_3)] 97 [] := by
                      clear hl
                      intro n3
                      induction n3 with
                      | zero =>
                        intro v5_3 r_there_3 h_v5_3 h_r_there_3 hm
                        rw [m_X6_way_l3] at hm
                        cases hm
                      | succ n3 ih3 =>
                        intro v5_3 r_there_3 h_v5_3 h_r_there_3 hm
                        rw [m_X6_way_l3] at hm
                        refine z_iload C dX6_way_97 3 rfl ?_
                        refine z_aload_n C dX6_way_99 0 rfl ?_
                        obtain ⟨r24, k25, hm⟩ := z_b1s hm
                        refine z_callVid C (k_X6_cells l G N r_o r_Atext r_Atold r_Adraft r_Abegun r_As r_Apast r_Aimages r_Arings r_Astates r_Aheld r_Ahere r_Athere r_text r_typed r_told r_draft r_begun r_s_2 r_past r_known r_images r_kept r_rings r_rung r_at r_states r_held_9 r_here_2 r_there_3 h_r_text h_r_typed h_r_told h_r_draft h_r_begun h_r_s_2 h_r_past h_r_known h_r_images h_r_kept h_r_rings h_r_rung h_r_at h_r_states h_r_held_9 h_r_here_2 h_r_there_3 r24 k25) zv_X6_cells zl_X6_53 dX6_way_100 rfl 0 rfl rfl rfl [z_i v5_3] rfl (Nat.le_of_ble_eq_true rfl) ⟨Nat.le_of_ble_eq_true rfl, Nat.le_of_ble_eq_true rfl⟩ ⟨rfl, rfl⟩ ⟨Nat.zero_le _, Nat.zero_le _⟩ (fun hF => ?_)
                        obtain ⟨h_r24, -⟩ := hF
                        refine z_icmp_ge (tgt := 220) C h_v5_3 h_r24 dX6_way_103 (by decide) (fun c26 => ?_) (fun c26 => ?_)
                        · have hm := z_pos c26 hm
                          refine z_sub (L' := [(0, .ref r_o), (2, z_i x2), (4, z_i v4_2)]) [0, 1, 2] rfl ?_
                          cases hm
                          exact JX3 h_r_there_3
                        · have hm := z_neg c26 hm
                          refine z_aload_n C dX6_way_106 0 rfl ?_
                          refine z_get C zf_X6_44 dX6_way_107 0 rfl rfl ?_
                          refine z_iload C dX6_way_110 3 rfl ?_
                          refine z_aload_n C dX6_way_112 0 rfl ?_
                          refine z_get C zf_X6_40 dX6_way_113 0 rfl rfl ?_
                          refine z_iload C dX6_way_116 3 rfl ?_
                          obtain ⟨c27, hm⟩ := z_chk_some hm
                          refine z_zald C dX6_way_118 11 rfl c27 h_v5_3 ?_
                          obtain ⟨c28, hm⟩ := z_chk_some hm
                          obtain ⟨c29, hm⟩ := z_chk_some hm
                          refine z_zast C dX6_way_119 12 rfl c28 h_v5_3 c29 (ws' := [(r_o, z_o 6 [.ref r_Atext, z_i r_typed, .ref r_Atold, .ref r_Adraft, .ref r_Abegun, .ref r_As, .ref r_Apast, z_i r_known, .ref r_Aimages, z_i r_kept, .ref r_Arings, z_i r_rung, z_i r_at, .ref r_Astates, .ref r_Aheld, .ref r_Ahere, .ref r_Athere]), (r_Atext, z_a G.2.1 200 r_text), (r_Atold, z_a G.2.1 39 r_told), (r_Adraft, z_a G.2.1 39 r_draft), (r_Abegun, z_a G.2.1 73 r_begun), (r_As, z_a G.2.1 73 r_s_2), (r_Apast, z_a G.2.1 584 r_past), (r_Aimages, z_a G.2.1 146 r_images), (r_Arings, z_a G.2.1 6 r_rings), (r_Astates, z_a G.2.1 36 r_states), (r_Aheld, z_a G.2.1 73 r_held_9), (r_Ahere, z_a G.2.2.2.2 36 r_here_2), (r_Athere, z_a G.2.2.2.2 36 (z_up r_there_3 v5_3 (r_here_2 v5_3)))]) rfl ?_
                          refine z_iconst C dX6_way_120 ?_
                          refine z_istore C dX6_way_121 (by decide) (L' := [(6, z_i 0), (0, .ref r_o), (2, z_i x2), (4, z_i v4_2), (5, z_i v5_3)]) rfl ?_
                          obtain ⟨o_r_there_4, hl, hm⟩ := z_b1s hm
                          have JX4 : z_r o_r_there_4 → z_J X 0 0 ([(r_o, z_o 6 [.ref r_Atext, z_i r_typed, .ref r_Atold, .ref r_Adraft, .ref r_Abegun, .ref r_As, .ref r_Apast, z_i r_known, .ref r_Aimages, z_i r_kept, .ref r_Arings, z_i r_rung, z_i r_at, .ref r_Astates, .ref r_Aheld, .ref r_Ahere, .ref r_Athere]), (r_Atext, z_a G.2.1 200 r_text), (r_Atold, z_a G.2.1 39 r_told), (r_Adraft, z_a G.2.1 39 r_draft), (r_Abegun, z_a G.2.1 73 r_begun), (r_As, z_a G.2.1 73 r_s_2), (r_Apast, z_a G.2.1 584 r_past), (r_Aimages, z_a G.2.1 146 r_images), (r_Arings, z_a G.2.1 6 r_rings), (r_Astates, z_a G.2.1 36 r_states), (r_Aheld, z_a G.2.1 73 r_held_9), (r_Ahere, z_a G.2.2.2.2 36 r_here_2), (r_Athere, z_a G.2.2.2.2 36 o_r_there_4)]) [(0, .ref r_o), (2, z_i x2), (4, z_i v4_2), (5, z_i v5_3)] 182 [] := by
                            intro h_o_r_there_4
                            clear hl
                            refine z_aload_n C dX6_way_182 0 rfl ?_
                            refine z_get C zf_X6_44 dX6_way_183 0 rfl rfl ?_
                            refine z_iload C dX6_way_186 3 rfl ?_
                            refine z_aload_n C dX6_way_188 0 rfl ?_
                            refine z_get C zf_X6_44 dX6_way_189 0 rfl rfl ?_
                            refine z_iload C dX6_way_192 3 rfl ?_
                            obtain ⟨c46, hm⟩ := z_chk_some hm
                            refine z_zald C dX6_way_194 12 rfl c46 h_v5_3 ?_
                            refine z_if_eq (tgt := 212) C (h_o_r_there_4 _) dX6_way_195 (by decide) (fun c47 => ?_) (fun c47 => ?_)
                            · have hm := z_pos c47 hm
                              refine z_iconst C dX6_way_212 ?_
                              obtain ⟨c48, hm⟩ := z_chk_some hm
                              refine z_zast C dX6_way_213 12 rfl c48 h_v5_3 (Or.inl rfl) (ws' := [(r_o, z_o 6 [.ref r_Atext, z_i r_typed, .ref r_Atold, .ref r_Adraft, .ref r_Abegun, .ref r_As, .ref r_Apast, z_i r_known, .ref r_Aimages, z_i r_kept, .ref r_Arings, z_i r_rung, z_i r_at, .ref r_Astates, .ref r_Aheld, .ref r_Ahere, .ref r_Athere]), (r_Atext, z_a G.2.1 200 r_text), (r_Atold, z_a G.2.1 39 r_told), (r_Adraft, z_a G.2.1 39 r_draft), (r_Abegun, z_a G.2.1 73 r_begun), (r_As, z_a G.2.1 73 r_s_2), (r_Apast, z_a G.2.1 584 r_past), (r_Aimages, z_a G.2.1 146 r_images), (r_Arings, z_a G.2.1 6 r_rings), (r_Astates, z_a G.2.1 36 r_states), (r_Aheld, z_a G.2.1 73 r_held_9), (r_Ahere, z_a G.2.2.2.2 36 r_here_2), (r_Athere, z_a G.2.2.2.2 36 (z_up o_r_there_4 v5_3 0))]) rfl ?_
                              obtain ⟨c49, hm⟩ := z_chk_some hm
                              refine z_iinc C dX6_way_214 3 rfl (by decide) (L' := [(5, z_i (v5_3 + 1)), (0, .ref r_o), (2, z_i x2), (4, z_i v4_2)]) rfl ?_
                              refine z_goto (tgt := 97) C dX6_way_217 (by decide) ?_
                              refine z_sub (L' := [(0, .ref r_o), (2, z_i x2), (4, z_i v4_2), (5, z_i (v5_3 + 1))]) [1, 2, 3, 0] rfl ?_
                              exact ih3 (v5_3 + 1) (z_up o_r_there_4 v5_3 0) c49 (z_r_up h_o_r_there_4 (z_k 0 rfl)) hm
                            · have hm := z_neg c47 hm
                              refine z_aload_n C dX6_way_198 0 rfl ?_
                              refine z_get C zf_X6_22 dX6_way_199 0 rfl rfl ?_
                              refine z_iload C dX6_way_202 3 rfl ?_
                              obtain ⟨c50, hm⟩ := z_chk_some hm
                              refine z_iald C dX6_way_204 5 rfl c50 h_v5_3 ?_
                              refine z_if_le (tgt := 212) C (h_r_s_2 _) dX6_way_205 (by decide) (fun c51 => ?_) (fun c51 => ?_)
                              · have hm := z_pos c51 hm
                                refine z_iconst C dX6_way_212 ?_
                                obtain ⟨c52, hm⟩ := z_chk_some hm
                                refine z_zast C dX6_way_213 12 rfl c52 h_v5_3 (Or.inl rfl) (ws' := [(r_o, z_o 6 [.ref r_Atext, z_i r_typed, .ref r_Atold, .ref r_Adraft, .ref r_Abegun, .ref r_As, .ref r_Apast, z_i r_known, .ref r_Aimages, z_i r_kept, .ref r_Arings, z_i r_rung, z_i r_at, .ref r_Astates, .ref r_Aheld, .ref r_Ahere, .ref r_Athere]), (r_Atext, z_a G.2.1 200 r_text), (r_Atold, z_a G.2.1 39 r_told), (r_Adraft, z_a G.2.1 39 r_draft), (r_Abegun, z_a G.2.1 73 r_begun), (r_As, z_a G.2.1 73 r_s_2), (r_Apast, z_a G.2.1 584 r_past), (r_Aimages, z_a G.2.1 146 r_images), (r_Arings, z_a G.2.1 6 r_rings), (r_Astates, z_a G.2.1 36 r_states), (r_Aheld, z_a G.2.1 73 r_held_9), (r_Ahere, z_a G.2.2.2.2 36 r_here_2), (r_Athere, z_a G.2.2.2.2 36 (z_up o_r_there_4 v5_3 0))]) rfl ?_
                                obtain ⟨c53, hm⟩ := z_chk_some hm
                                refine z_iinc C dX6_way_214 3 rfl (by decide) (L' := [(5, z_i (v5_3 + 1)), (0, .ref r_o), (2, z_i x2), (4, z_i v4_2)]) rfl ?_
                                refine z_goto (tgt := 97) C dX6_way_217 (by decide) ?_
                                refine z_sub (L' := [(0, .ref r_o), (2, z_i x2), (4, z_i v4_2), (5, z_i (v5_3 + 1))]) [1, 2, 3, 0] rfl ?_
                                exact ih3 (v5_3 + 1) (z_up o_r_there_4 v5_3 0) c53 (z_r_up h_o_r_there_4 (z_k 0 rfl)) hm
                              · have hm := z_neg c51 hm
                                refine z_iconst C dX6_way_208 ?_
                                refine z_goto (tgt := 213) C dX6_way_209 (by decide) ?_
                                obtain ⟨c54, hm⟩ := z_chk_some hm
                                refine z_zast C dX6_way_213 12 rfl c54 h_v5_3 (Or.inr rfl) (ws' := [(r_o, z_o 6 [.ref r_Atext, z_i r_typed, .ref r_Atold, .ref r_Adraft, .ref r_Abegun, .ref r_As, .ref r_Apast, z_i r_known, .ref r_Aimages, z_i r_kept, .ref r_Arings, z_i r_rung, z_i r_at, .ref r_Astates, .ref r_Aheld, .ref r_Ahere, .ref r_Athere]), (r_Atext, z_a G.2.1 200 r_text), (r_Atold, z_a G.2.1 39 r_told), (r_Adraft, z_a G.2.1 39 r_draft), (r_Abegun, z_a G.2.1 73 r_begun), (r_As, z_a G.2.1 73 r_s_2), (r_Apast, z_a G.2.1 584 r_past), (r_Aimages, z_a G.2.1 146 r_images), (r_Arings, z_a G.2.1 6 r_rings), (r_Astates, z_a G.2.1 36 r_states), (r_Aheld, z_a G.2.1 73 r_held_9), (r_Ahere, z_a G.2.2.2.2 36 r_here_2), (r_Athere, z_a G.2.2.2.2 36 (z_up o_r_there_4 v5_3 1))]) rfl ?_
                                obtain ⟨c55, hm⟩ := z_chk_some hm
                                refine z_iinc C dX6_way_214 3 rfl (by decide) (L' := [(5, z_i (v5_3 + 1)), (0, .ref r_o), (2, z_i x2), (4, z_i v4_2)]) rfl ?_
                                refine z_goto (tgt := 97) C dX6_way_217 (by decide) ?_
                                refine z_sub (L' := [(0, .ref r_o), (2, z_i x2), (4, z_i v4_2), (5, z_i (v5_3 + 1))]) [1, 2, 3, 0] rfl ?_
                                exact ih3 (v5_3 + 1) (z_up o_r_there_4 v5_3 1) c55 (z_r_up h_o_r_there_4 (z_k 1 rfl)) hm
                          clear hm
                          have L4 : ∀ (n4 : Nat) (v6_4 : Int) (r_there_4 : (Int → Int)), z_n v6_4 → z_r r_there_4 → m_X6_way_l4 N r_told v5_3 r_here_2 n4 v6_4 r_there_4 = some (o_r_there_4) → z_J X 0 0 ([(r_o, z_o 6 [.ref r_Atext, z_i r_typed, .ref r_Atold, .ref r_Adraft, .ref r_Abegun, .ref r_As, .ref r_Apast, z_i r_known, .ref r_Aimages, z_i r_kept, .ref r_Arings, z_i r_rung, z_i r_at, .ref r_Astates, .ref r_Aheld, .ref r_Ahere, .ref r_Athere]), (r_Atext, z_a G.2.1 200 r_text), (r_Atold, z_a G.2.1 39 r_told), (r_Adraft, z_a G.2.1 39 r_draft), (r_Abegun, z_a G.2.1 73 r_begun), (r_As, z_a G.2.1 73 r_s_2), (r_Apast, z_a G.2.1 584 r_past), (r_Aimages, z_a G.2.1 146 r_images), (r_Arings, z_a G.2.1 6 r_rings), (r_Astates, z_a G.2.1 36 r_states), (r_Aheld, z_a G.2.1 73 r_held_9), (r_Ahere, z_a G.2.2.2.2 36 r_here_2), (r_Athere, z_a G.2.2.2.2 36 r_there_4)]) [(0, .ref r_o), (2, z_i x2), (4, z_i v4_2), (5, z_i v5_3), (6, z_i v6_4)] 123 [] := by
                            clear hl
                            intro n4
                            induction n4 with
                            | zero =>
                              intro v6_4 r_there_4 h_v6_4 h_r_there_4 hm
                              rw [m_X6_way_l4] at hm
                              cases hm
                            | succ n4 ih4 =>
                              intro v6_4 r_there_4 h_v6_4 h_r_there_4 hm
                              rw [m_X6_way_l4] at hm
                              refine z_iload C dX6_way_123 4 rfl ?_
                              refine z_iconst C dX6_way_125 ?_
                              refine z_icmp_ge (tgt := 182) C h_v6_4 (z_k 4 rfl) dX6_way_126 (by decide) (fun c30 => ?_) (fun c30 => ?_)
                              · have hm := z_pos c30 hm
                                refine z_sub (L' := [(0, .ref r_o), (2, z_i x2), (4, z_i v4_2), (5, z_i v5_3)]) [0, 1, 2, 3] rfl ?_
                                cases hm
                                exact JX4 h_r_there_4
                              · have hm := z_neg c30 hm
                                refine z_aload_n C dX6_way_129 0 rfl ?_
                                refine z_iload C dX6_way_130 3 rfl ?_
                                refine z_iload C dX6_way_132 4 rfl ?_
                                obtain ⟨r31, k32, hm⟩ := z_b1s hm
                                refine z_callVid C (k_X6_beside l G N r_o r_Atext r_Atold r_Adraft r_Abegun r_As r_Apast r_Aimages r_Arings r_Astates r_Aheld r_Ahere r_Athere r_text r_typed r_told r_draft r_begun r_s_2 r_past r_known r_images r_kept r_rings r_rung r_at r_states r_held_9 r_here_2 r_there_4 v5_3 v6_4 h_r_text h_r_typed h_r_told h_r_draft h_r_begun h_r_s_2 h_r_past h_r_known h_r_images h_r_kept h_r_rings h_r_rung h_r_at h_r_states h_r_held_9 h_r_here_2 h_r_there_4 h_v5_3 h_v6_4 r31 k32) zv_X6_beside zl_X6_101 dX6_way_134 rfl 0 rfl rfl rfl [] rfl (Nat.le_of_ble_eq_true rfl) ⟨Nat.le_of_ble_eq_true rfl, Nat.le_of_ble_eq_true rfl⟩ ⟨rfl, rfl⟩ ⟨Nat.zero_le _, Nat.zero_le _⟩ (fun hF => ?_)
                                obtain ⟨h_r31, -⟩ := hF
                                refine z_istore C dX6_way_137 (by decide) (L' := [(7, z_i r31), (0, .ref r_o), (2, z_i x2), (4, z_i v4_2), (5, z_i v5_3), (6, z_i v6_4)]) rfl ?_
                                refine z_aload_n C dX6_way_139 1 rfl ?_
                                refine z_get C zf_X6_44 dX6_way_140 0 rfl rfl ?_
                                refine z_iload C dX6_way_143 4 rfl ?_
                                refine z_aload_n C dX6_way_145 1 rfl ?_
                                refine z_get C zf_X6_44 dX6_way_146 0 rfl rfl ?_
                                refine z_iload C dX6_way_149 4 rfl ?_
                                obtain ⟨c33, hm⟩ := z_chk_some hm
                                refine z_zald C dX6_way_151 12 rfl c33 h_v5_3 ?_
                                refine z_if_ne (tgt := 170) C (h_r_there_4 _) dX6_way_152 (by decide) (fun c34 => ?_) (fun c34 => ?_)
                                · have hm := z_pos c34 hm
                                  refine z_iconst C dX6_way_170 ?_
                                  refine z_goto (tgt := 175) C dX6_way_171 (by decide) ?_
                                  obtain ⟨c35, hm⟩ := z_chk_some hm
                                  refine z_zast C dX6_way_175 12 rfl c35 h_v5_3 (Or.inr rfl) (ws' := [(r_o, z_o 6 [.ref r_Atext, z_i r_typed, .ref r_Atold, .ref r_Adraft, .ref r_Abegun, .ref r_As, .ref r_Apast, z_i r_known, .ref r_Aimages, z_i r_kept, .ref r_Arings, z_i r_rung, z_i r_at, .ref r_Astates, .ref r_Aheld, .ref r_Ahere, .ref r_Athere]), (r_Atext, z_a G.2.1 200 r_text), (r_Atold, z_a G.2.1 39 r_told), (r_Adraft, z_a G.2.1 39 r_draft), (r_Abegun, z_a G.2.1 73 r_begun), (r_As, z_a G.2.1 73 r_s_2), (r_Apast, z_a G.2.1 584 r_past), (r_Aimages, z_a G.2.1 146 r_images), (r_Arings, z_a G.2.1 6 r_rings), (r_Astates, z_a G.2.1 36 r_states), (r_Aheld, z_a G.2.1 73 r_held_9), (r_Ahere, z_a G.2.2.2.2 36 r_here_2), (r_Athere, z_a G.2.2.2.2 36 (z_up r_there_4 v5_3 1))]) rfl ?_
                                  obtain ⟨c36, hm⟩ := z_chk_some hm
                                  refine z_iinc C dX6_way_176 5 rfl (by decide) (L' := [(6, z_i (v6_4 + 1)), (7, z_i r31), (0, .ref r_o), (2, z_i x2), (4, z_i v4_2), (5, z_i v5_3)]) rfl ?_
                                  refine z_goto (tgt := 123) C dX6_way_179 (by decide) ?_
                                  refine z_sub (L' := [(0, .ref r_o), (2, z_i x2), (4, z_i v4_2), (5, z_i v5_3), (6, z_i (v6_4 + 1))]) [2, 3, 4, 5, 0] rfl ?_
                                  exact ih4 (v6_4 + 1) (z_up r_there_4 v5_3 1) c36 (z_r_up h_r_there_4 (z_k 1 rfl)) hm
                                · have hm := z_neg c34 hm
                                  refine z_iload C dX6_way_155 0 rfl ?_
                                  refine z_if_lt (tgt := 174) C h_r31 dX6_way_157 (by decide) (fun c37 => ?_) (fun c37 => ?_)
                                  · have hm := z_pos c37 hm
                                    refine z_iconst C dX6_way_174 ?_
                                    obtain ⟨c38, hm⟩ := z_chk_some hm
                                    refine z_zast C dX6_way_175 12 rfl c38 h_v5_3 (Or.inl rfl) (ws' := [(r_o, z_o 6 [.ref r_Atext, z_i r_typed, .ref r_Atold, .ref r_Adraft, .ref r_Abegun, .ref r_As, .ref r_Apast, z_i r_known, .ref r_Aimages, z_i r_kept, .ref r_Arings, z_i r_rung, z_i r_at, .ref r_Astates, .ref r_Aheld, .ref r_Ahere, .ref r_Athere]), (r_Atext, z_a G.2.1 200 r_text), (r_Atold, z_a G.2.1 39 r_told), (r_Adraft, z_a G.2.1 39 r_draft), (r_Abegun, z_a G.2.1 73 r_begun), (r_As, z_a G.2.1 73 r_s_2), (r_Apast, z_a G.2.1 584 r_past), (r_Aimages, z_a G.2.1 146 r_images), (r_Arings, z_a G.2.1 6 r_rings), (r_Astates, z_a G.2.1 36 r_states), (r_Aheld, z_a G.2.1 73 r_held_9), (r_Ahere, z_a G.2.2.2.2 36 r_here_2), (r_Athere, z_a G.2.2.2.2 36 (z_up r_there_4 v5_3 0))]) rfl ?_
                                    obtain ⟨c39, hm⟩ := z_chk_some hm
                                    refine z_iinc C dX6_way_176 5 rfl (by decide) (L' := [(6, z_i (v6_4 + 1)), (7, z_i r31), (0, .ref r_o), (2, z_i x2), (4, z_i v4_2), (5, z_i v5_3)]) rfl ?_
                                    refine z_goto (tgt := 123) C dX6_way_179 (by decide) ?_
                                    refine z_sub (L' := [(0, .ref r_o), (2, z_i x2), (4, z_i v4_2), (5, z_i v5_3), (6, z_i (v6_4 + 1))]) [2, 3, 4, 5, 0] rfl ?_
                                    exact ih4 (v6_4 + 1) (z_up r_there_4 v5_3 0) c39 (z_r_up h_r_there_4 (z_k 0 rfl)) hm
                                  · have hm := z_neg c37 hm
                                    refine z_aload_n C dX6_way_160 1 rfl ?_
                                    refine z_get C zf_X6_40 dX6_way_161 0 rfl rfl ?_
                                    refine z_iload C dX6_way_164 0 rfl ?_
                                    obtain ⟨c40, hm⟩ := z_chk_some hm
                                    refine z_zald C dX6_way_166 11 rfl c40 h_r31 ?_
                                    refine z_if_eq (tgt := 174) C (h_r_here_2 _) dX6_way_167 (by decide) (fun c41 => ?_) (fun c41 => ?_)
                                    · have hm := z_pos c41 hm
                                      refine z_iconst C dX6_way_174 ?_
                                      obtain ⟨c42, hm⟩ := z_chk_some hm
                                      refine z_zast C dX6_way_175 12 rfl c42 h_v5_3 (Or.inl rfl) (ws' := [(r_o, z_o 6 [.ref r_Atext, z_i r_typed, .ref r_Atold, .ref r_Adraft, .ref r_Abegun, .ref r_As, .ref r_Apast, z_i r_known, .ref r_Aimages, z_i r_kept, .ref r_Arings, z_i r_rung, z_i r_at, .ref r_Astates, .ref r_Aheld, .ref r_Ahere, .ref r_Athere]), (r_Atext, z_a G.2.1 200 r_text), (r_Atold, z_a G.2.1 39 r_told), (r_Adraft, z_a G.2.1 39 r_draft), (r_Abegun, z_a G.2.1 73 r_begun), (r_As, z_a G.2.1 73 r_s_2), (r_Apast, z_a G.2.1 584 r_past), (r_Aimages, z_a G.2.1 146 r_images), (r_Arings, z_a G.2.1 6 r_rings), (r_Astates, z_a G.2.1 36 r_states), (r_Aheld, z_a G.2.1 73 r_held_9), (r_Ahere, z_a G.2.2.2.2 36 r_here_2), (r_Athere, z_a G.2.2.2.2 36 (z_up r_there_4 v5_3 0))]) rfl ?_
                                      obtain ⟨c43, hm⟩ := z_chk_some hm
                                      refine z_iinc C dX6_way_176 5 rfl (by decide) (L' := [(6, z_i (v6_4 + 1)), (7, z_i r31), (0, .ref r_o), (2, z_i x2), (4, z_i v4_2), (5, z_i v5_3)]) rfl ?_
                                      refine z_goto (tgt := 123) C dX6_way_179 (by decide) ?_
                                      refine z_sub (L' := [(0, .ref r_o), (2, z_i x2), (4, z_i v4_2), (5, z_i v5_3), (6, z_i (v6_4 + 1))]) [2, 3, 4, 5, 0] rfl ?_
                                      exact ih4 (v6_4 + 1) (z_up r_there_4 v5_3 0) c43 (z_r_up h_r_there_4 (z_k 0 rfl)) hm
                                    · have hm := z_neg c41 hm
                                      refine z_iconst C dX6_way_170 ?_
                                      refine z_goto (tgt := 175) C dX6_way_171 (by decide) ?_
                                      obtain ⟨c44, hm⟩ := z_chk_some hm
                                      refine z_zast C dX6_way_175 12 rfl c44 h_v5_3 (Or.inr rfl) (ws' := [(r_o, z_o 6 [.ref r_Atext, z_i r_typed, .ref r_Atold, .ref r_Adraft, .ref r_Abegun, .ref r_As, .ref r_Apast, z_i r_known, .ref r_Aimages, z_i r_kept, .ref r_Arings, z_i r_rung, z_i r_at, .ref r_Astates, .ref r_Aheld, .ref r_Ahere, .ref r_Athere]), (r_Atext, z_a G.2.1 200 r_text), (r_Atold, z_a G.2.1 39 r_told), (r_Adraft, z_a G.2.1 39 r_draft), (r_Abegun, z_a G.2.1 73 r_begun), (r_As, z_a G.2.1 73 r_s_2), (r_Apast, z_a G.2.1 584 r_past), (r_Aimages, z_a G.2.1 146 r_images), (r_Arings, z_a G.2.1 6 r_rings), (r_Astates, z_a G.2.1 36 r_states), (r_Aheld, z_a G.2.1 73 r_held_9), (r_Ahere, z_a G.2.2.2.2 36 r_here_2), (r_Athere, z_a G.2.2.2.2 36 (z_up r_there_4 v5_3 1))]) rfl ?_
                                      obtain ⟨c45, hm⟩ := z_chk_some hm
                                      refine z_iinc C dX6_way_176 5 rfl (by decide) (L' := [(6, z_i (v6_4 + 1)), (7, z_i r31), (0, .ref r_o), (2, z_i x2), (4, z_i v4_2), (5, z_i v5_3)]) rfl ?_
                                      refine z_goto (tgt := 123) C dX6_way_179 (by decide) ?_
                                      refine z_sub (L' := [(0, .ref r_o), (2, z_i x2), (4, z_i v4_2), (5, z_i v5_3), (6, z_i (v6_4 + 1))]) [2, 3, 4, 5, 0] rfl ?_
                                      exact ih4 (v6_4 + 1) (z_up r_there_4 v5_3 1) c45 (z_r_up h_r_there_4 (z_k 1 rfl)) hm
                          refine z_sub (L' := [(0, .ref r_o), (2, z_i x2), (4, z_i v4_2), (5, z_i v5_3), (6, z_i 0)]) [1, 2, 3, 4, 0] rfl ?_
                          exact L4 N 0 (z_up r_there_3 v5_3 (r_here_2 v5_3)) (z_k 0 rfl) (z_r_up h_r_there_3 (h_r_here_2 _)) hl
                    refine z_sub (L' := [(0, .ref r_o), (2, z_i x2), (4, z_i v4_2), (5, z_i 0)]) [1, 2, 4, 0] rfl ?_
                    exact L3 N 0 r_there_2 (z_k 0 rfl) h_r_there_2 hl
            refine z_sub (L' := [(0, .ref r_o), (2, z_i x2), (3, z_i s20), (4, z_i 1)]) [2, 3, 1, 0] rfl ?_
            exact L2 N s20 1 r_s o_r_here_1 r_there h_s20 (z_k 1 rfl) h_r_s h_o_r_here_1 h_r_there hl
          replace hm := hj
          clear hj
          refine z_icmp_ne (tgt := 75) C h_x1 h_x2 dX6_way_68 (by decide) (fun c19 => ?_) (fun c19 => ?_)
          · have hm := z_pos c19 hm
            refine z_bipush C dX6_way_75 (by decide) ?_
            refine z_sub (L' := [(0, .ref r_o), (2, z_i x2)]) [0, 2] rfl ?_
            cases hm
            exact J21 (z_k (-4) rfl)
          · have hm := z_neg c19 hm
            refine z_iconst C dX6_way_71 ?_
            refine z_goto (tgt := 77) C dX6_way_72 (by decide) ?_
            refine z_sub (L' := [(0, .ref r_o), (2, z_i x2)]) [0, 2] rfl ?_
            cases hm
            exact J21 (z_k 0 rfl)
        clear hm
        have L1 : ∀ (n1 : Nat) (v3_1 : Int) (r_here_1 : (Int → Int)), z_n v3_1 → z_r r_here_1 → m_X6_way_l1 N r_told x1 n1 v3_1 r_here_1 = some (o_r_here_1) → z_J X 0 0 ([(r_o, z_o 6 [.ref r_Atext, z_i r_typed, .ref r_Atold, .ref r_Adraft, .ref r_Abegun, .ref r_As, .ref r_Apast, z_i r_known, .ref r_Aimages, z_i r_kept, .ref r_Arings, z_i r_rung, z_i r_at, .ref r_Astates, .ref r_Aheld, .ref r_Ahere, .ref r_Athere]), (r_Atext, z_a G.2.1 200 r_text), (r_Atold, z_a G.2.1 39 r_told), (r_Adraft, z_a G.2.1 39 r_draft), (r_Abegun, z_a G.2.1 73 r_begun), (r_As, z_a G.2.1 73 r_s), (r_Apast, z_a G.2.1 584 r_past), (r_Aimages, z_a G.2.1 146 r_images), (r_Arings, z_a G.2.1 6 r_rings), (r_Astates, z_a G.2.1 36 r_states), (r_Aheld, z_a G.2.1 73 r_held_9), (r_Ahere, z_a G.2.2.2.2 36 r_here_1), (r_Athere, z_a G.2.2.2.2 36 r_there)]) [(0, .ref r_o), (1, z_i x1), (2, z_i x2), (3, z_i v3_1)] 36 [] := by
          clear hl
          intro n1
          induction n1 with
          | zero =>
            intro v3_1 r_here_1 h_v3_1 h_r_here_1 hm
            rw [m_X6_way_l1] at hm
            cases hm
          | succ n1 ih1 =>
            intro v3_1 r_here_1 h_v3_1 h_r_here_1 hm
            rw [m_X6_way_l1] at hm
            refine z_iload_n C dX6_way_36 3 rfl ?_
            refine z_aload_n C dX6_way_37 0 rfl ?_
            obtain ⟨r11, k12, hm⟩ := z_b1s hm
            refine z_callVid C (k_X6_cells l G N r_o r_Atext r_Atold r_Adraft r_Abegun r_As r_Apast r_Aimages r_Arings r_Astates r_Aheld r_Ahere r_Athere r_text r_typed r_told r_draft r_begun r_s r_past r_known r_images r_kept r_rings r_rung r_at r_states r_held_9 r_here_1 r_there h_r_text h_r_typed h_r_told h_r_draft h_r_begun h_r_s h_r_past h_r_known h_r_images h_r_kept h_r_rings h_r_rung h_r_at h_r_states h_r_held_9 h_r_here_1 h_r_there r11 k12) zv_X6_cells zl_X6_53 dX6_way_38 rfl 0 rfl rfl rfl [z_i v3_1] rfl (Nat.le_of_ble_eq_true rfl) ⟨Nat.le_of_ble_eq_true rfl, Nat.le_of_ble_eq_true rfl⟩ ⟨rfl, rfl⟩ ⟨Nat.zero_le _, Nat.zero_le _⟩ (fun hF => ?_)
            obtain ⟨h_r11, -⟩ := hF
            refine z_icmp_ge (tgt := 66) C h_v3_1 h_r11 dX6_way_41 (by decide) (fun c13 => ?_) (fun c13 => ?_)
            · have hm := z_pos c13 hm
              refine z_sub (L' := [(0, .ref r_o), (1, z_i x1), (2, z_i x2)]) [0, 1, 2] rfl ?_
              cases hm
              exact JX1 h_r_here_1
            · have hm := z_neg c13 hm
              refine z_aload_n C dX6_way_44 0 rfl ?_
              refine z_get C zf_X6_40 dX6_way_45 0 rfl rfl ?_
              refine z_iload_n C dX6_way_48 3 rfl ?_
              refine z_iload_n C dX6_way_49 3 rfl ?_
              refine z_iload_n C dX6_way_50 1 rfl ?_
              refine z_icmp_ne (tgt := 58) C h_v3_1 h_x1 dX6_way_51 (by decide) (fun c14 => ?_) (fun c14 => ?_)
              · have hm := z_pos c14 hm
                refine z_iconst C dX6_way_58 ?_
                obtain ⟨c15, hm⟩ := z_chk_some hm
                refine z_zast C dX6_way_59 11 rfl c15 h_v3_1 (Or.inl rfl) (ws' := [(r_o, z_o 6 [.ref r_Atext, z_i r_typed, .ref r_Atold, .ref r_Adraft, .ref r_Abegun, .ref r_As, .ref r_Apast, z_i r_known, .ref r_Aimages, z_i r_kept, .ref r_Arings, z_i r_rung, z_i r_at, .ref r_Astates, .ref r_Aheld, .ref r_Ahere, .ref r_Athere]), (r_Atext, z_a G.2.1 200 r_text), (r_Atold, z_a G.2.1 39 r_told), (r_Adraft, z_a G.2.1 39 r_draft), (r_Abegun, z_a G.2.1 73 r_begun), (r_As, z_a G.2.1 73 r_s), (r_Apast, z_a G.2.1 584 r_past), (r_Aimages, z_a G.2.1 146 r_images), (r_Arings, z_a G.2.1 6 r_rings), (r_Astates, z_a G.2.1 36 r_states), (r_Aheld, z_a G.2.1 73 r_held_9), (r_Ahere, z_a G.2.2.2.2 36 (z_up r_here_1 v3_1 0)), (r_Athere, z_a G.2.2.2.2 36 r_there)]) rfl ?_
                obtain ⟨c16, hm⟩ := z_chk_some hm
                refine z_iinc C dX6_way_60 3 rfl (by decide) (L' := [(3, z_i (v3_1 + 1)), (0, .ref r_o), (1, z_i x1), (2, z_i x2)]) rfl ?_
                refine z_goto (tgt := 36) C dX6_way_63 (by decide) ?_
                refine z_sub (L' := [(0, .ref r_o), (1, z_i x1), (2, z_i x2), (3, z_i (v3_1 + 1))]) [1, 2, 3, 0] rfl ?_
                exact ih1 (v3_1 + 1) (z_up r_here_1 v3_1 0) c16 (z_r_up h_r_here_1 (z_k 0 rfl)) hm
              · have hm := z_neg c14 hm
                refine z_iconst C dX6_way_54 ?_
                refine z_goto (tgt := 59) C dX6_way_55 (by decide) ?_
                obtain ⟨c17, hm⟩ := z_chk_some hm
                refine z_zast C dX6_way_59 11 rfl c17 h_v3_1 (Or.inr rfl) (ws' := [(r_o, z_o 6 [.ref r_Atext, z_i r_typed, .ref r_Atold, .ref r_Adraft, .ref r_Abegun, .ref r_As, .ref r_Apast, z_i r_known, .ref r_Aimages, z_i r_kept, .ref r_Arings, z_i r_rung, z_i r_at, .ref r_Astates, .ref r_Aheld, .ref r_Ahere, .ref r_Athere]), (r_Atext, z_a G.2.1 200 r_text), (r_Atold, z_a G.2.1 39 r_told), (r_Adraft, z_a G.2.1 39 r_draft), (r_Abegun, z_a G.2.1 73 r_begun), (r_As, z_a G.2.1 73 r_s), (r_Apast, z_a G.2.1 584 r_past), (r_Aimages, z_a G.2.1 146 r_images), (r_Arings, z_a G.2.1 6 r_rings), (r_Astates, z_a G.2.1 36 r_states), (r_Aheld, z_a G.2.1 73 r_held_9), (r_Ahere, z_a G.2.2.2.2 36 (z_up r_here_1 v3_1 1)), (r_Athere, z_a G.2.2.2.2 36 r_there)]) rfl ?_
                obtain ⟨c18, hm⟩ := z_chk_some hm
                refine z_iinc C dX6_way_60 3 rfl (by decide) (L' := [(3, z_i (v3_1 + 1)), (0, .ref r_o), (1, z_i x1), (2, z_i x2)]) rfl ?_
                refine z_goto (tgt := 36) C dX6_way_63 (by decide) ?_
                refine z_sub (L' := [(0, .ref r_o), (1, z_i x1), (2, z_i x2), (3, z_i (v3_1 + 1))]) [1, 2, 3, 0] rfl ?_
                exact ih1 (v3_1 + 1) (z_up r_here_1 v3_1 1) c18 (z_r_up h_r_here_1 (z_k 1 rfl)) hm
        refine z_sub (L' := [(0, .ref r_o), (1, z_i x1), (2, z_i x2), (3, z_i 0)]) [1, 2, 3, 0] rfl ?_
        exact L1 N 0 r_here (z_k 0 rfl) h_r_here hl
      · have hm := z_neg c8 hm
        refine z_bipush C dX6_way_27 (by decide) ?_
        cases hm
        exact z_iret C E dX6_way_29 ⟨rfl, rfl, (z_k (-4) rfl), h_r_s, h_r_held, h_r_here, h_r_there, trivial⟩
    · have hm := z_neg c6 hm
      refine z_iconst C dX6_way_16 ?_
      cases hm
      exact z_iret C E dX6_way_17 ⟨rfl, rfl, (z_k (-1) rfl), h_r_s, h_r_held, h_r_here, h_r_there, trivial⟩
