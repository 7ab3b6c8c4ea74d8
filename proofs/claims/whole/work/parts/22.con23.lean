set_option maxRecDepth 100000 in
theorem k_X6_dry (l : Launch) (G : z_G) (N : Nat) (r_o r_Atext r_Atold r_Adraft r_Abegun r_As r_Apast r_Aimages r_Arings r_Astates r_Aheld r_Ahere r_Athere : Nat) (r_text : (Int → Int)) (r_typed : Int) (r_told : (Int → Int)) (r_draft : (Int → Int)) (r_begun : (Int → Int)) (r_s : (Int → Int)) (r_past : (Int → Int)) (r_known : Int) (r_images : (Int → Int)) (r_kept : Int) (r_rings : (Int → Int)) (r_rung : Int) (r_at : Int) (r_states : (Int → Int)) (r_held : (Int → Int)) (r_here : (Int → Int)) (r_there : (Int → Int)) (x1 : Int) (h_r_text : z_r r_text) (h_r_typed : z_n r_typed) (h_r_told : z_r r_told) (h_r_draft : z_r r_draft) (h_r_begun : z_r r_begun) (h_r_s : z_r r_s) (h_r_past : z_r r_past) (h_r_known : z_n r_known) (h_r_images : z_r r_images) (h_r_kept : z_n r_kept) (h_r_rings : z_r r_rings) (h_r_rung : z_n r_rung) (h_r_at : z_n r_at) (h_r_states : z_r r_states) (h_r_held : z_r r_held) (h_r_here : z_r r_here) (h_r_there : z_r r_there) (h_x1 : z_n x1) (rr : Int) (q_r_s : (Int → Int)) (q_r_held : (Int → Int)) (hm : m_X6_dry N r_told r_s r_held x1 = some (rr, q_r_s, q_r_held)) : z_M l G yX6_dry cX6_dry 6 (some .int) (k2_rm 6 139) [.ref r_o, z_i x1] ([(r_o, z_o 6 [.ref r_Atext, z_i r_typed, .ref r_Atold, .ref r_Adraft, .ref r_Abegun, .ref r_As, .ref r_Apast, z_i r_known, .ref r_Aimages, z_i r_kept, .ref r_Arings, z_i r_rung, z_i r_at, .ref r_Astates, .ref r_Aheld, .ref r_Ahere, .ref r_Athere]), (r_Atext, z_a G.2.1 200 r_text), (r_Atold, z_a G.2.1 39 r_told), (r_Adraft, z_a G.2.1 39 r_draft), (r_Abegun, z_a G.2.1 73 r_begun), (r_As, z_a G.2.1 73 r_s), (r_Apast, z_a G.2.1 584 r_past), (r_Aimages, z_a G.2.1 146 r_images), (r_Arings, z_a G.2.1 6 r_rings), (r_Astates, z_a G.2.1 36 r_states), (r_Aheld, z_a G.2.1 73 r_held), (r_Ahere, z_a G.2.2.2.2 36 r_here), (r_Athere, z_a G.2.2.2.2 36 r_there)]) 0 0 (fun v w => v = some (z_i rr) ∧ w = [(r_o, z_o 6 [.ref r_Atext, z_i r_typed, .ref r_Atold, .ref r_Adraft, .ref r_Abegun, .ref r_As, .ref r_Apast, z_i r_known, .ref r_Aimages, z_i r_kept, .ref r_Arings, z_i r_rung, z_i r_at, .ref r_Astates, .ref r_Aheld, .ref r_Ahere, .ref r_Athere]), (r_Atext, z_a G.2.1 200 r_text), (r_Atold, z_a G.2.1 39 r_told), (r_Adraft, z_a G.2.1 39 r_draft), (r_Abegun, z_a G.2.1 73 r_begun), (r_As, z_a G.2.1 73 q_r_s), (r_Apast, z_a G.2.1 584 r_past), (r_Aimages, z_a G.2.1 146 r_images), (r_Arings, z_a G.2.1 6 r_rings), (r_Astates, z_a G.2.1 36 r_states), (r_Aheld, z_a G.2.1 73 q_r_held), (r_Ahere, z_a G.2.2.2.2 36 r_here), (r_Athere, z_a G.2.2.2.2 36 r_there)] ∧ z_n rr ∧ z_r q_r_s ∧ z_r q_r_held ∧ True) := by
  unfold m_X6_dry at hm
  refine z_M.intro (by decide +kernel) (Nat.le_of_ble_eq_true rfl) (L := [(0, .ref r_o), (1, z_i x1)]) rfl (fun X C E => ?_)
  refine z_iload_n C dX6_dry_0 1 rfl ?_
  refine z_iconst C dX6_dry_1 ?_
  refine z_iconst C dX6_dry_2 ?_
  obtain ⟨r1, k2, hm⟩ := z_b1s hm
  refine z_callSi C (k_X6_in l G N x1 0 1 h_x1 (z_k 0 rfl) (z_k 1 rfl) r1 k2) zs_X6_in zl_X6_57 dX6_dry_3 [] rfl rfl rfl (ws' := [(r_o, z_o 6 [.ref r_Atext, z_i r_typed, .ref r_Atold, .ref r_Adraft, .ref r_Abegun, .ref r_As, .ref r_Apast, z_i r_known, .ref r_Aimages, z_i r_kept, .ref r_Arings, z_i r_rung, z_i r_at, .ref r_Astates, .ref r_Aheld, .ref r_Ahere, .ref r_Athere]), (r_Atext, z_a G.2.1 200 r_text), (r_Atold, z_a G.2.1 39 r_told), (r_Adraft, z_a G.2.1 39 r_draft), (r_Abegun, z_a G.2.1 73 r_begun), (r_As, z_a G.2.1 73 r_s), (r_Apast, z_a G.2.1 584 r_past), (r_Aimages, z_a G.2.1 146 r_images), (r_Arings, z_a G.2.1 6 r_rings), (r_Astates, z_a G.2.1 36 r_states), (r_Aheld, z_a G.2.1 73 r_held), (r_Ahere, z_a G.2.2.2.2 36 r_here), (r_Athere, z_a G.2.2.2.2 36 r_there)]) rfl rfl [] rfl (Nat.le_of_ble_eq_true rfl) ⟨Nat.le_of_ble_eq_true rfl, Nat.le_of_ble_eq_true rfl⟩ ⟨rfl, rfl⟩ ⟨Nat.zero_le _, Nat.zero_le _⟩ (fun hF => ?_)
  obtain ⟨hb_r1, -⟩ := hF
  refine z_if_ne (tgt := 11) C (z_n01 hb_r1) dX6_dry_6 (by decide) (fun c3 => ?_) (fun c3 => ?_)
  · have hm := z_pos c3 hm
    refine z_aload_n C dX6_dry_11 0 rfl ?_
    obtain ⟨r_held_4, k5, hm⟩ := z_b1s hm
    refine z_callVvd C (k_X6_holds l G N r_o r_Atext r_Atold r_Adraft r_Abegun r_As r_Apast r_Aimages r_Arings r_Astates r_Aheld r_Ahere r_Athere r_text r_typed r_told r_draft r_begun r_s r_past r_known r_images r_kept r_rings r_rung r_at r_states r_held r_here r_there h_r_text h_r_typed h_r_told h_r_draft h_r_begun h_r_s h_r_past h_r_known h_r_images h_r_kept h_r_rings h_r_rung h_r_at h_r_states h_r_held h_r_here h_r_there r_held_4 k5) zv_X6_holds zl_X6_137 dX6_dry_12 rfl 0 rfl rfl rfl [] rfl (Nat.le_of_ble_eq_true rfl) ⟨Nat.le_of_ble_eq_true rfl, Nat.le_of_ble_eq_true rfl⟩ ⟨rfl, rfl⟩ ⟨Nat.zero_le _, Nat.zero_le _⟩ (fun hF => ?_)
    obtain ⟨h_r_held_4, -⟩ := hF
    refine z_bipush C dX6_dry_15 (by decide) ?_
    refine z_istore_n C dX6_dry_17 (by decide) (L' := [(2, z_i (-4)), (0, .ref r_o), (1, z_i x1)]) rfl ?_
    refine z_bipush C dX6_dry_18 (by decide) ?_
    refine z_istore_n C dX6_dry_20 (by decide) (L' := [(3, z_i (-4)), (2, z_i (-4)), (0, .ref r_o), (1, z_i x1)]) rfl ?_
    refine z_iconst C dX6_dry_21 ?_
    refine z_istore C dX6_dry_22 (by decide) (L' := [(4, z_i 0), (3, z_i (-4)), (2, z_i (-4)), (0, .ref r_o), (1, z_i x1)]) rfl ?_
    obtain ⟨o2_1, o3_1, o_r_s_1, hl, hm⟩ := z_b3s hm
    have JX1 : z_n o2_1 → z_n o3_1 → z_r o_r_s_1 → z_J X 0 0 ([(r_o, z_o 6 [.ref r_Atext, z_i r_typed, .ref r_Atold, .ref r_Adraft, .ref r_Abegun, .ref r_As, .ref r_Apast, z_i r_known, .ref r_Aimages, z_i r_kept, .ref r_Arings, z_i r_rung, z_i r_at, .ref r_Astates, .ref r_Aheld, .ref r_Ahere, .ref r_Athere]), (r_Atext, z_a G.2.1 200 r_text), (r_Atold, z_a G.2.1 39 r_told), (r_Adraft, z_a G.2.1 39 r_draft), (r_Abegun, z_a G.2.1 73 r_begun), (r_As, z_a G.2.1 73 o_r_s_1), (r_Apast, z_a G.2.1 584 r_past), (r_Aimages, z_a G.2.1 146 r_images), (r_Arings, z_a G.2.1 6 r_rings), (r_Astates, z_a G.2.1 36 r_states), (r_Aheld, z_a G.2.1 73 r_held_4), (r_Ahere, z_a G.2.2.2.2 36 r_here), (r_Athere, z_a G.2.2.2.2 36 r_there)]) [(0, .ref r_o), (1, z_i x1), (2, z_i o2_1), (3, z_i o3_1)] 82 [] := by
      intro h_o2_1 h_o3_1 h_o_r_s_1
      clear hl
      refine z_aload_n C dX6_dry_82 0 rfl ?_
      obtain ⟨r_s_19, k20, hm⟩ := z_b1s hm
      refine z_callVvd C (k_X6_lets l G N r_o r_Atext r_Atold r_Adraft r_Abegun r_As r_Apast r_Aimages r_Arings r_Astates r_Aheld r_Ahere r_Athere r_text r_typed r_told r_draft r_begun o_r_s_1 r_past r_known r_images r_kept r_rings r_rung r_at r_states r_held_4 r_here r_there h_r_text h_r_typed h_r_told h_r_draft h_r_begun h_o_r_s_1 h_r_past h_r_known h_r_images h_r_kept h_r_rings h_r_rung h_r_at h_r_states h_r_held_4 h_r_here h_r_there r_s_19 k20) zv_X6_lets zl_X6_140 dX6_dry_83 rfl 0 rfl rfl rfl [] rfl (Nat.le_of_ble_eq_true rfl) ⟨Nat.le_of_ble_eq_true rfl, Nat.le_of_ble_eq_true rfl⟩ ⟨rfl, rfl⟩ ⟨Nat.zero_le _, Nat.zero_le _⟩ (fun hF => ?_)
      obtain ⟨h_r_s_19, -⟩ := hF
      refine z_iload_n C dX6_dry_86 1 rfl ?_
      refine z_if_eq (tgt := 96) C h_x1 dX6_dry_87 (by decide) (fun c21 => ?_) (fun c21 => ?_)
      · have hm := z_pos c21 hm
        refine z_iload_n C dX6_dry_96 3 rfl ?_
        refine z_goto (tgt := 101) C dX6_dry_97 (by decide) ?_
        cases hm
        exact z_iret C E dX6_dry_101 ⟨rfl, rfl, h_o3_1, h_r_s_19, h_r_held_4, trivial⟩
      · have hm := z_neg c21 hm
        refine z_iload_n C dX6_dry_90 3 rfl ?_
        refine z_bipush C dX6_dry_91 (by decide) ?_
        refine z_icmp_ne (tgt := 100) C h_o3_1 (z_k (-4) rfl) dX6_dry_93 (by decide) (fun c22 => ?_) (fun c22 => ?_)
        · have hm := z_pos c22 hm
          refine z_iload_n C dX6_dry_100 2 rfl ?_
          cases hm
          exact z_iret C E dX6_dry_101 ⟨rfl, rfl, h_o2_1, h_r_s_19, h_r_held_4, trivial⟩
        · have hm := z_neg c22 hm
          refine z_iload_n C dX6_dry_96 3 rfl ?_
          refine z_goto (tgt := 101) C dX6_dry_97 (by decide) ?_
          cases hm
          exact z_iret C E dX6_dry_101 ⟨rfl, rfl, h_o3_1, h_r_s_19, h_r_held_4, trivial⟩
    clear hm
    have L1 : ∀ (n1 : Nat) (v2_1 : Int) (v3_1 : Int) (v4_1 : Int) (r_s_1 : (Int → Int)), z_n v2_1 → z_n v3_1 → z_n v4_1 → z_r r_s_1 → m_X6_dry_l1 N r_told n1 v2_1 v3_1 v4_1 r_s_1 = some (o2_1, o3_1, o_r_s_1) → z_J X 0 0 ([(r_o, z_o 6 [.ref r_Atext, z_i r_typed, .ref r_Atold, .ref r_Adraft, .ref r_Abegun, .ref r_As, .ref r_Apast, z_i r_known, .ref r_Aimages, z_i r_kept, .ref r_Arings, z_i r_rung, z_i r_at, .ref r_Astates, .ref r_Aheld, .ref r_Ahere, .ref r_Athere]), (r_Atext, z_a G.2.1 200 r_text), (r_Atold, z_a G.2.1 39 r_told), (r_Adraft, z_a G.2.1 39 r_draft), (r_Abegun, z_a G.2.1 73 r_begun), (r_As, z_a G.2.1 73 r_s_1), (r_Apast, z_a G.2.1 584 r_past), (r_Aimages, z_a G.2.1 146 r_images), (r_Arings, z_a G.2.1 6 r_rings), (r_Astates, z_a G.2.1 36 r_states), (r_Aheld, z_a G.2.1 73 r_held_4), (r_Ahere, z_a G.2.2.2.2 36 r_here), (r_Athere, z_a G.2.2.2.2 36 r_there)]) [(0, .ref r_o), (1, z_i x1), (2, z_i v2_1), (3, z_i v3_1), (4, z_i v4_1)] 24 [] := by
      clear hl
      intro n1
      induction n1 with
      | zero =>
        intro v2_1 v3_1 v4_1 r_s_1 h_v2_1 h_v3_1 h_v4_1 h_r_s_1 hm
        rw [m_X6_dry_l1] at hm
        cases hm
      | succ n1 ih1 =>
        intro v2_1 v3_1 v4_1 r_s_1 h_v2_1 h_v3_1 h_v4_1 h_r_s_1 hm
        rw [m_X6_dry_l1] at hm
        refine z_iload C dX6_dry_24 4 rfl ?_
        refine z_bipush C dX6_dry_26 (by decide) ?_
        refine z_icmp_ge (tgt := 82) C h_v4_1 (z_k 61 rfl) dX6_dry_28 (by decide) (fun c6 => ?_) (fun c6 => ?_)
        · have hm := z_pos c6 hm
          refine z_sub (L' := [(0, .ref r_o), (1, z_i x1), (2, z_i v2_1), (3, z_i v3_1)]) [0, 1, 2, 3] rfl ?_
          cases hm
          exact JX1 h_v2_1 h_v3_1 h_r_s_1
        · have hm := z_neg c6 hm
          refine z_iload_n C dX6_dry_31 3 rfl ?_
          refine z_bipush C dX6_dry_32 (by decide) ?_
          refine z_icmp_ne (tgt := 82) C h_v3_1 (z_k (-4) rfl) dX6_dry_34 (by decide) (fun c7 => ?_) (fun c7 => ?_)
          · have hm := z_pos c7 hm
            refine z_sub (L' := [(0, .ref r_o), (1, z_i x1), (2, z_i v2_1), (3, z_i v3_1)]) [0, 1, 2, 3] rfl ?_
            cases hm
            exact JX1 h_v2_1 h_v3_1 h_r_s_1
          · have hm := z_neg c7 hm
            refine z_aload_n C dX6_dry_37 0 rfl ?_
            obtain ⟨r8, k9, hm⟩ := z_b1s hm
            refine z_callVid C (k_X6_lowest l G N r_o r_Atext r_Atold r_Adraft r_Abegun r_As r_Apast r_Aimages r_Arings r_Astates r_Aheld r_Ahere r_Athere r_text r_typed r_told r_draft r_begun r_s_1 r_past r_known r_images r_kept r_rings r_rung r_at r_states r_held_4 r_here r_there h_r_text h_r_typed h_r_told h_r_draft h_r_begun h_r_s_1 h_r_past h_r_known h_r_images h_r_kept h_r_rings h_r_rung h_r_at h_r_states h_r_held_4 h_r_here h_r_there r8 k9) zv_X6_lowest zl_X6_143 dX6_dry_38 rfl 0 rfl rfl rfl [] rfl (Nat.le_of_ble_eq_true rfl) ⟨Nat.le_of_ble_eq_true rfl, Nat.le_of_ble_eq_true rfl⟩ ⟨rfl, rfl⟩ ⟨Nat.zero_le _, Nat.zero_le _⟩ (fun hF => ?_)
            obtain ⟨h_r8, -⟩ := hF
            refine z_istore C dX6_dry_41 (by decide) (L' := [(5, z_i r8), (0, .ref r_o), (1, z_i x1), (2, z_i v2_1), (3, z_i v3_1), (4, z_i v4_1)]) rfl ?_
            refine z_iload C dX6_dry_43 0 rfl ?_
            refine z_bipush C dX6_dry_45 (by decide) ?_
            obtain ⟨s11, hj, hm⟩ := z_b1s hm
            have J12 : z_n s11 → z_J X 0 0 ([(r_o, z_o 6 [.ref r_Atext, z_i r_typed, .ref r_Atold, .ref r_Adraft, .ref r_Abegun, .ref r_As, .ref r_Apast, z_i r_known, .ref r_Aimages, z_i r_kept, .ref r_Arings, z_i r_rung, z_i r_at, .ref r_Astates, .ref r_Aheld, .ref r_Ahere, .ref r_Athere]), (r_Atext, z_a G.2.1 200 r_text), (r_Atold, z_a G.2.1 39 r_told), (r_Adraft, z_a G.2.1 39 r_draft), (r_Abegun, z_a G.2.1 73 r_begun), (r_As, z_a G.2.1 73 r_s_1), (r_Apast, z_a G.2.1 584 r_past), (r_Aimages, z_a G.2.1 146 r_images), (r_Arings, z_a G.2.1 6 r_rings), (r_Astates, z_a G.2.1 36 r_states), (r_Aheld, z_a G.2.1 73 r_held_4), (r_Ahere, z_a G.2.2.2.2 36 r_here), (r_Athere, z_a G.2.2.2.2 36 r_there)]) [(0, .ref r_o), (1, z_i x1), (2, z_i v2_1), (4, z_i v4_1), (5, z_i r8)] 57 [z_i s11] := by
              intro h_s11
              clear hj
              refine z_istore_n C dX6_dry_57 (by decide) (L' := [(3, z_i s11), (0, .ref r_o), (1, z_i x1), (2, z_i v2_1), (4, z_i v4_1), (5, z_i r8)]) rfl ?_
              refine z_iload C dX6_dry_58 5 rfl ?_
              refine z_bipush C dX6_dry_60 (by decide) ?_
              obtain ⟨s14, hj, hm⟩ := z_b1s hm
              have J15 : z_n s14 → z_J X 0 0 ([(r_o, z_o 6 [.ref r_Atext, z_i r_typed, .ref r_Atold, .ref r_Adraft, .ref r_Abegun, .ref r_As, .ref r_Apast, z_i r_known, .ref r_Aimages, z_i r_kept, .ref r_Arings, z_i r_rung, z_i r_at, .ref r_Astates, .ref r_Aheld, .ref r_Ahere, .ref r_Athere]), (r_Atext, z_a G.2.1 200 r_text), (r_Atold, z_a G.2.1 39 r_told), (r_Adraft, z_a G.2.1 39 r_draft), (r_Abegun, z_a G.2.1 73 r_begun), (r_As, z_a G.2.1 73 r_s_1), (r_Apast, z_a G.2.1 584 r_past), (r_Aimages, z_a G.2.1 146 r_images), (r_Arings, z_a G.2.1 6 r_rings), (r_Astates, z_a G.2.1 36 r_states), (r_Aheld, z_a G.2.1 73 r_held_4), (r_Ahere, z_a G.2.2.2.2 36 r_here), (r_Athere, z_a G.2.2.2.2 36 r_there)]) [(0, .ref r_o), (1, z_i x1), (3, z_i s11), (4, z_i v4_1)] 71 [z_i s14] := by
                intro h_s14
                clear hj
                refine z_istore_n C dX6_dry_71 (by decide) (L' := [(2, z_i s14), (0, .ref r_o), (1, z_i x1), (3, z_i s11), (4, z_i v4_1)]) rfl ?_
                refine z_aload_n C dX6_dry_72 1 rfl ?_
                obtain ⟨r_s_16, k17, hm⟩ := z_b1s hm
                refine z_callVvd C (k_X6_shines l G N r_o r_Atext r_Atold r_Adraft r_Abegun r_As r_Apast r_Aimages r_Arings r_Astates r_Aheld r_Ahere r_Athere r_text r_typed r_told r_draft r_begun r_s_1 r_past r_known r_images r_kept r_rings r_rung r_at r_states r_held_4 r_here r_there h_r_text h_r_typed h_r_told h_r_draft h_r_begun h_r_s_1 h_r_past h_r_known h_r_images h_r_kept h_r_rings h_r_rung h_r_at h_r_states h_r_held_4 h_r_here h_r_there r_s_16 k17) zv_X6_shines zl_X6_134 dX6_dry_73 rfl 0 rfl rfl rfl [] rfl (Nat.le_of_ble_eq_true rfl) ⟨Nat.le_of_ble_eq_true rfl, Nat.le_of_ble_eq_true rfl⟩ ⟨rfl, rfl⟩ ⟨Nat.zero_le _, Nat.zero_le _⟩ (fun hF => ?_)
                obtain ⟨h_r_s_16, -⟩ := hF
                obtain ⟨c18, hm⟩ := z_chk_some hm
                refine z_iinc C dX6_dry_76 4 rfl (by decide) (L' := [(4, z_i (v4_1 + 1)), (2, z_i s14), (0, .ref r_o), (1, z_i x1), (3, z_i s11)]) rfl ?_
                refine z_goto (tgt := 24) C dX6_dry_79 (by decide) ?_
                refine z_sub (L' := [(0, .ref r_o), (1, z_i x1), (2, z_i s14), (3, z_i s11), (4, z_i (v4_1 + 1))]) [2, 3, 1, 4, 0] rfl ?_
                exact ih1 s14 s11 (v4_1 + 1) r_s_16 h_s14 h_s11 c18 h_r_s_16 hm
              replace hm := hj
              clear hj
              refine z_icmp_ne (tgt := 69) C h_r8 (z_k (-4) rfl) dX6_dry_62 (by decide) (fun c13 => ?_) (fun c13 => ?_)
              · have hm := z_pos c13 hm
                refine z_iload C dX6_dry_69 5 rfl ?_
                refine z_sub (L' := [(0, .ref r_o), (1, z_i x1), (3, z_i s11), (4, z_i v4_1)]) [1, 2, 0, 4] rfl ?_
                cases hm
                exact J15 h_r8
              · have hm := z_neg c13 hm
                refine z_iload_n C dX6_dry_65 3 rfl ?_
                refine z_goto (tgt := 71) C dX6_dry_66 (by decide) ?_
                refine z_sub (L' := [(0, .ref r_o), (1, z_i x1), (3, z_i s11), (4, z_i v4_1)]) [1, 2, 0, 4] rfl ?_
                cases hm
                exact J15 h_v2_1
            replace hm := hj
            clear hj
            refine z_icmp_ne (tgt := 55) C h_r8 (z_k (-4) rfl) dX6_dry_47 (by decide) (fun c10 => ?_) (fun c10 => ?_)
            · have hm := z_pos c10 hm
              refine z_bipush C dX6_dry_55 (by decide) ?_
              refine z_sub (L' := [(0, .ref r_o), (1, z_i x1), (2, z_i v2_1), (4, z_i v4_1), (5, z_i r8)]) [1, 2, 3, 5, 0] rfl ?_
              cases hm
              exact J12 (z_k (-4) rfl)
            · have hm := z_neg c10 hm
              refine z_iload C dX6_dry_50 5 rfl ?_
              refine z_goto (tgt := 57) C dX6_dry_52 (by decide) ?_
              refine z_sub (L' := [(0, .ref r_o), (1, z_i x1), (2, z_i v2_1), (4, z_i v4_1), (5, z_i r8)]) [1, 2, 3, 5, 0] rfl ?_
              cases hm
              exact J12 h_v4_1
    refine z_sub (L' := [(0, .ref r_o), (1, z_i x1), (2, z_i (-4)), (3, z_i (-4)), (4, z_i 0)]) [3, 4, 2, 1, 0] rfl ?_
    exact L1 N (-4) (-4) 0 r_s (z_k (-4) rfl) (z_k (-4) rfl) (z_k 0 rfl) h_r_s hl
  · have hm := z_neg c3 hm
    refine z_iconst C dX6_dry_9 ?_
    cases hm
    exact z_iret C E dX6_dry_10 ⟨rfl, rfl, (z_k (-1) rfl), h_r_s, h_r_held, trivial⟩
set_option maxRecDepth 100000 in
theorem k_X6_isOne (l : Launch) (G : z_G) (N : Nat) (r_o r_Atext r_Atold r_Adraft r_Abegun r_As r_Apast r_Aimages r_Arings r_Astates r_Aheld r_Ahere r_Athere : Nat) (r_text : (Int → Int)) (r_typed : Int) (r_told : (Int → Int)) (r_draft : (Int → Int)) (r_begun : (Int → Int)) (r_s : (Int → Int)) (r_past : (Int → Int)) (r_known : Int) (r_images : (Int → Int)) (r_kept : Int) (r_rings : (Int → Int)) (r_rung : Int) (r_at : Int) (r_states : (Int → Int)) (r_held : (Int → Int)) (r_here : (Int → Int)) (r_there : (Int → Int)) (x1 : Int) (x2 : Int) (h_r_text : z_r r_text) (h_r_typed : z_n r_typed) (h_r_told : z_r r_told) (h_r_draft : z_r r_draft) (h_r_begun : z_r r_begun) (h_r_s : z_r r_s) (h_r_past : z_r r_past) (h_r_known : z_n r_known) (h_r_images : z_r r_images) (h_r_kept : z_n r_kept) (h_r_rings : z_r r_rings) (h_r_rung : z_n r_rung) (h_r_at : z_n r_at) (h_r_states : z_r r_states) (h_r_held : z_r r_held) (h_r_here : z_r r_here) (h_r_there : z_r r_there) (h_x1 : z_n x1) (h_x2 : z_n x2) (rr : Int) (q_r_states : (Int → Int)) (hm : m_X6_isOne N r_told r_s r_states x1 x2 = some (rr, q_r_states)) : z_M l G yX6_isOne cX6_isOne 3 (some .boolean) (k2_rm 4 92) [.ref r_o, z_i x1, z_i x2] ([(r_o, z_o 6 [.ref r_Atext, z_i r_typed, .ref r_Atold, .ref r_Adraft, .ref r_Abegun, .ref r_As, .ref r_Apast, z_i r_known, .ref r_Aimages, z_i r_kept, .ref r_Arings, z_i r_rung, z_i r_at, .ref r_Astates, .ref r_Aheld, .ref r_Ahere, .ref r_Athere]), (r_Atext, z_a G.2.1 200 r_text), (r_Atold, z_a G.2.1 39 r_told), (r_Adraft, z_a G.2.1 39 r_draft), (r_Abegun, z_a G.2.1 73 r_begun), (r_As, z_a G.2.1 73 r_s), (r_Apast, z_a G.2.1 584 r_past), (r_Aimages, z_a G.2.1 146 r_images), (r_Arings, z_a G.2.1 6 r_rings), (r_Astates, z_a G.2.1 36 r_states), (r_Aheld, z_a G.2.1 73 r_held), (r_Ahere, z_a G.2.2.2.2 36 r_here), (r_Athere, z_a G.2.2.2.2 36 r_there)]) 0 0 (fun v w => v = some (z_i rr) ∧ w = [(r_o, z_o 6 [.ref r_Atext, z_i r_typed, .ref r_Atold, .ref r_Adraft, .ref r_Abegun, .ref r_As, .ref r_Apast, z_i r_known, .ref r_Aimages, z_i r_kept, .ref r_Arings, z_i r_rung, z_i r_at, .ref r_Astates, .ref r_Aheld, .ref r_Ahere, .ref r_Athere]), (r_Atext, z_a G.2.1 200 r_text), (r_Atold, z_a G.2.1 39 r_told), (r_Adraft, z_a G.2.1 39 r_draft), (r_Abegun, z_a G.2.1 73 r_begun), (r_As, z_a G.2.1 73 r_s), (r_Apast, z_a G.2.1 584 r_past), (r_Aimages, z_a G.2.1 146 r_images), (r_Arings, z_a G.2.1 6 r_rings), (r_Astates, z_a G.2.1 36 q_r_states), (r_Aheld, z_a G.2.1 73 r_held), (r_Ahere, z_a G.2.2.2.2 36 r_here), (r_Athere, z_a G.2.2.2.2 36 r_there)] ∧ (rr = 0 ∨ rr = 1) ∧ z_r q_r_states ∧ True) := by
  unfold m_X6_isOne at hm
  refine z_M.intro (by decide +kernel) (Nat.le_of_ble_eq_true rfl) (L := [(0, .ref r_o), (1, z_i x1), (2, z_i x2)]) rfl (fun X C E => ?_)
  refine z_aload_n C dX6_isOne_0 0 rfl ?_
  obtain ⟨r_states_1, k2, hm⟩ := z_b1s hm
  refine z_callVvd C (k_X6_laysStates l G N r_o r_Atext r_Atold r_Adraft r_Abegun r_As r_Apast r_Aimages r_Arings r_Astates r_Aheld r_Ahere r_Athere r_text r_typed r_told r_draft r_begun r_s r_past r_known r_images r_kept r_rings r_rung r_at r_states r_held r_here r_there h_r_text h_r_typed h_r_told h_r_draft h_r_begun h_r_s h_r_past h_r_known h_r_images h_r_kept h_r_rings h_r_rung h_r_at h_r_states h_r_held h_r_here h_r_there r_states_1 k2) zv_X6_laysStates zl_X6_118 dX6_isOne_1 rfl 0 rfl rfl rfl [] rfl (Nat.le_of_ble_eq_true rfl) ⟨Nat.le_of_ble_eq_true rfl, Nat.le_of_ble_eq_true rfl⟩ ⟨rfl, rfl⟩ ⟨Nat.zero_le _, Nat.zero_le _⟩ (fun hF => ?_)
  obtain ⟨h_r_states_1, -⟩ := hF
  refine z_aload_n C dX6_isOne_4 0 rfl ?_
  refine z_get C zf_X6_34 dX6_isOne_5 0 rfl rfl ?_
  refine z_iload_n C dX6_isOne_8 1 rfl ?_
  obtain ⟨c3, hm⟩ := z_chk_some hm
  refine z_iald C dX6_isOne_9 9 rfl c3 h_x1 ?_
  refine z_if_lt (tgt := 32) C (h_r_states_1 _) dX6_isOne_10 (by decide) (fun c4 => ?_) (fun c4 => ?_)
  · have hm := z_pos c4 hm
    refine z_iconst C dX6_isOne_32 ?_
    cases hm
    exact z_zret C E (Or.inl rfl) dX6_isOne_33 ⟨rfl, rfl, (Or.inl rfl), h_r_states_1, trivial⟩
  · have hm := z_neg c4 hm
    refine z_aload_n C dX6_isOne_13 0 rfl ?_
    refine z_get C zf_X6_34 dX6_isOne_14 0 rfl rfl ?_
    refine z_iload_n C dX6_isOne_17 1 rfl ?_
    obtain ⟨c5, hm⟩ := z_chk_some hm
    refine z_iald C dX6_isOne_18 9 rfl c5 h_x1 ?_
    refine z_aload_n C dX6_isOne_19 0 rfl ?_
    refine z_get C zf_X6_34 dX6_isOne_20 0 rfl rfl ?_
    refine z_iload_n C dX6_isOne_23 2 rfl ?_
    obtain ⟨c6, hm⟩ := z_chk_some hm
    refine z_iald C dX6_isOne_24 9 rfl c6 h_x2 ?_
    refine z_icmp_ne (tgt := 32) C (h_r_states_1 _) (h_r_states_1 _) dX6_isOne_25 (by decide) (fun c7 => ?_) (fun c7 => ?_)
    · have hm := z_pos c7 hm
      refine z_iconst C dX6_isOne_32 ?_
      cases hm
      exact z_zret C E (Or.inl rfl) dX6_isOne_33 ⟨rfl, rfl, (Or.inl rfl), h_r_states_1, trivial⟩
    · have hm := z_neg c7 hm
      refine z_iconst C dX6_isOne_28 ?_
      refine z_goto (tgt := 33) C dX6_isOne_29 (by decide) ?_
      cases hm
      exact z_zret C E (Or.inr rfl) dX6_isOne_33 ⟨rfl, rfl, (Or.inr rfl), h_r_states_1, trivial⟩
set_option maxRecDepth 100000 in
theorem k_X6_join (l : Launch) (G : z_G) (N : Nat) (r_o r_Atext r_Atold r_Adraft r_Abegun r_As r_Apast r_Aimages r_Arings r_Astates r_Aheld r_Ahere r_Athere : Nat) (r_text : (Int → Int)) (r_typed : Int) (r_told : (Int → Int)) (r_draft : (Int → Int)) (r_begun : (Int → Int)) (r_s : (Int → Int)) (r_past : (Int → Int)) (r_known : Int) (r_images : (Int → Int)) (r_kept : Int) (r_rings : (Int → Int)) (r_rung : Int) (r_at : Int) (r_states : (Int → Int)) (r_held : (Int → Int)) (r_here : (Int → Int)) (r_there : (Int → Int)) (x1 : Int) (x2 : Int) (h_r_text : z_r r_text) (h_r_typed : z_n r_typed) (h_r_told : z_r r_told) (h_r_draft : z_r r_draft) (h_r_begun : z_r r_begun) (h_r_s : z_r r_s) (h_r_past : z_r r_past) (h_r_known : z_n r_known) (h_r_images : z_r r_images) (h_r_kept : z_n r_kept) (h_r_rings : z_r r_rings) (h_r_rung : z_n r_rung) (h_r_at : z_n r_at) (h_r_states : z_r r_states) (h_r_held : z_r r_held) (h_r_here : z_r r_here) (h_r_there : z_r r_there) (h_x1 : z_n x1) (h_x2 : z_n x2) (rr : Int) (q_r_s : (Int → Int)) (q_r_states : (Int → Int)) (q_r_held : (Int → Int)) (hm : m_X6_join N r_told r_s r_states r_held x1 x2 = some (rr, q_r_s, q_r_states, q_r_held)) : z_M l G yX6_join cX6_join 5 (some .int) (k2_rm 6 139) [.ref r_o, z_i x1, z_i x2] ([(r_o, z_o 6 [.ref r_Atext, z_i r_typed, .ref r_Atold, .ref r_Adraft, .ref r_Abegun, .ref r_As, .ref r_Apast, z_i r_known, .ref r_Aimages, z_i r_kept, .ref r_Arings, z_i r_rung, z_i r_at, .ref r_Astates, .ref r_Aheld, .ref r_Ahere, .ref r_Athere]), (r_Atext, z_a G.2.1 200 r_text), (r_Atold, z_a G.2.1 39 r_told), (r_Adraft, z_a G.2.1 39 r_draft), (r_Abegun, z_a G.2.1 73 r_begun), (r_As, z_a G.2.1 73 r_s), (r_Apast, z_a G.2.1 584 r_past), (r_Aimages, z_a G.2.1 146 r_images), (r_Arings, z_a G.2.1 6 r_rings), (r_Astates, z_a G.2.1 36 r_states), (r_Aheld, z_a G.2.1 73 r_held), (r_Ahere, z_a G.2.2.2.2 36 r_here), (r_Athere, z_a G.2.2.2.2 36 r_there)]) 0 0 (fun v w => v = some (z_i rr) ∧ w = [(r_o, z_o 6 [.ref r_Atext, z_i r_typed, .ref r_Atold, .ref r_Adraft, .ref r_Abegun, .ref r_As, .ref r_Apast, z_i r_known, .ref r_Aimages, z_i r_kept, .ref r_Arings, z_i r_rung, z_i r_at, .ref r_Astates, .ref r_Aheld, .ref r_Ahere, .ref r_Athere]), (r_Atext, z_a G.2.1 200 r_text), (r_Atold, z_a G.2.1 39 r_told), (r_Adraft, z_a G.2.1 39 r_draft), (r_Abegun, z_a G.2.1 73 r_begun), (r_As, z_a G.2.1 73 q_r_s), (r_Apast, z_a G.2.1 584 r_past), (r_Aimages, z_a G.2.1 146 r_images), (r_Arings, z_a G.2.1 6 r_rings), (r_Astates, z_a G.2.1 36 q_r_states), (r_Aheld, z_a G.2.1 73 q_r_held), (r_Ahere, z_a G.2.2.2.2 36 r_here), (r_Athere, z_a G.2.2.2.2 36 r_there)] ∧ z_n rr ∧ z_r q_r_s ∧ z_r q_r_states ∧ z_r q_r_held ∧ True) := by
  unfold m_X6_join at hm
  refine z_M.intro (by decide +kernel) (Nat.le_of_ble_eq_true rfl) (L := [(0, .ref r_o), (1, z_i x1), (2, z_i x2)]) rfl (fun X C E => ?_)
  refine z_aload_n C dX6_join_0 0 rfl ?_
  refine z_iload_n C dX6_join_1 1 rfl ?_
  obtain ⟨r1, k2, hm⟩ := z_b1s hm
  refine z_callVid C (k_X6_isCell l G N r_o r_Atext r_Atold r_Adraft r_Abegun r_As r_Apast r_Aimages r_Arings r_Astates r_Aheld r_Ahere r_Athere r_text r_typed r_told r_draft r_begun r_s r_past r_known r_images r_kept r_rings r_rung r_at r_states r_held r_here r_there x1 h_r_text h_r_typed h_r_told h_r_draft h_r_begun h_r_s h_r_past h_r_known h_r_images h_r_kept h_r_rings h_r_rung h_r_at h_r_states h_r_held h_r_here h_r_there h_x1 r1 k2) zv_X6_isCell zl_X6_98 dX6_join_2 rfl 0 rfl rfl rfl [] rfl (Nat.le_of_ble_eq_true rfl) ⟨Nat.le_of_ble_eq_true rfl, Nat.le_of_ble_eq_true rfl⟩ ⟨rfl, rfl⟩ ⟨Nat.zero_le _, Nat.zero_le _⟩ (fun hF => ?_)
  obtain ⟨hb_r1, -⟩ := hF
  refine z_if_eq (tgt := 21) C (z_n01 hb_r1) dX6_join_5 (by decide) (fun c3 => ?_) (fun c3 => ?_)
  · have hm := z_pos c3 hm
    refine z_iconst C dX6_join_21 ?_
    cases hm
    exact z_iret C E dX6_join_22 ⟨rfl, rfl, (z_k (-1) rfl), h_r_s, h_r_states, h_r_held, trivial⟩
  · have hm := z_neg c3 hm
    refine z_aload_n C dX6_join_8 0 rfl ?_
    refine z_iload_n C dX6_join_9 2 rfl ?_
    obtain ⟨r4, k5, hm⟩ := z_b1s hm
    refine z_callVid C (k_X6_isCell l G N r_o r_Atext r_Atold r_Adraft r_Abegun r_As r_Apast r_Aimages r_Arings r_Astates r_Aheld r_Ahere r_Athere r_text r_typed r_told r_draft r_begun r_s r_past r_known r_images r_kept r_rings r_rung r_at r_states r_held r_here r_there x2 h_r_text h_r_typed h_r_told h_r_draft h_r_begun h_r_s h_r_past h_r_known h_r_images h_r_kept h_r_rings h_r_rung h_r_at h_r_states h_r_held h_r_here h_r_there h_x2 r4 k5) zv_X6_isCell zl_X6_98 dX6_join_10 rfl 0 rfl rfl rfl [] rfl (Nat.le_of_ble_eq_true rfl) ⟨Nat.le_of_ble_eq_true rfl, Nat.le_of_ble_eq_true rfl⟩ ⟨rfl, rfl⟩ ⟨Nat.zero_le _, Nat.zero_le _⟩ (fun hF => ?_)
    obtain ⟨hb_r4, -⟩ := hF
    refine z_if_eq (tgt := 21) C (z_n01 hb_r4) dX6_join_13 (by decide) (fun c6 => ?_) (fun c6 => ?_)
    · have hm := z_pos c6 hm
      refine z_iconst C dX6_join_21 ?_
      cases hm
      exact z_iret C E dX6_join_22 ⟨rfl, rfl, (z_k (-1) rfl), h_r_s, h_r_states, h_r_held, trivial⟩
    · have hm := z_neg c6 hm
      refine z_iload_n C dX6_join_16 1 rfl ?_
      refine z_iload_n C dX6_join_17 2 rfl ?_
      refine z_icmp_ne (tgt := 23) C h_x1 h_x2 dX6_join_18 (by decide) (fun c7 => ?_) (fun c7 => ?_)
      · have hm := z_pos c7 hm
        refine z_aload_n C dX6_join_23 0 rfl ?_
        obtain ⟨r_held_8, k9, hm⟩ := z_b1s hm
        refine z_callVvd C (k_X6_holds l G N r_o r_Atext r_Atold r_Adraft r_Abegun r_As r_Apast r_Aimages r_Arings r_Astates r_Aheld r_Ahere r_Athere r_text r_typed r_told r_draft r_begun r_s r_past r_known r_images r_kept r_rings r_rung r_at r_states r_held r_here r_there h_r_text h_r_typed h_r_told h_r_draft h_r_begun h_r_s h_r_past h_r_known h_r_images h_r_kept h_r_rings h_r_rung h_r_at h_r_states h_r_held h_r_here h_r_there r_held_8 k9) zv_X6_holds zl_X6_137 dX6_join_24 rfl 0 rfl rfl rfl [] rfl (Nat.le_of_ble_eq_true rfl) ⟨Nat.le_of_ble_eq_true rfl, Nat.le_of_ble_eq_true rfl⟩ ⟨rfl, rfl⟩ ⟨Nat.zero_le _, Nat.zero_le _⟩ (fun hF => ?_)
        obtain ⟨h_r_held_8, -⟩ := hF
        refine z_bipush C dX6_join_27 (by decide) ?_
        refine z_istore_n C dX6_join_29 (by decide) (L' := [(3, z_i (-4)), (0, .ref r_o), (1, z_i x1), (2, z_i x2)]) rfl ?_
        refine z_iconst C dX6_join_30 ?_
        refine z_istore C dX6_join_31 (by decide) (L' := [(4, z_i 0), (3, z_i (-4)), (0, .ref r_o), (1, z_i x1), (2, z_i x2)]) rfl ?_
        obtain ⟨o3_1, o_r_s_1, o_r_states_1, hl, hm⟩ := z_b3s hm
        have JX1 : z_n o3_1 → z_r o_r_s_1 → z_r o_r_states_1 → z_J X 0 0 ([(r_o, z_o 6 [.ref r_Atext, z_i r_typed, .ref r_Atold, .ref r_Adraft, .ref r_Abegun, .ref r_As, .ref r_Apast, z_i r_known, .ref r_Aimages, z_i r_kept, .ref r_Arings, z_i r_rung, z_i r_at, .ref r_Astates, .ref r_Aheld, .ref r_Ahere, .ref r_Athere]), (r_Atext, z_a G.2.1 200 r_text), (r_Atold, z_a G.2.1 39 r_told), (r_Adraft, z_a G.2.1 39 r_draft), (r_Abegun, z_a G.2.1 73 r_begun), (r_As, z_a G.2.1 73 o_r_s_1), (r_Apast, z_a G.2.1 584 r_past), (r_Aimages, z_a G.2.1 146 r_images), (r_Arings, z_a G.2.1 6 r_rings), (r_Astates, z_a G.2.1 36 o_r_states_1), (r_Aheld, z_a G.2.1 73 r_held_8), (r_Ahere, z_a G.2.2.2.2 36 r_here), (r_Athere, z_a G.2.2.2.2 36 r_there)]) [(3, z_i o3_1)] 84 [] := by
          intro h_o3_1 h_o_r_s_1 h_o_r_states_1
          clear hl
          refine z_iload_n C dX6_join_84 0 rfl ?_
          cases hm
          exact z_iret C E dX6_join_85 ⟨rfl, rfl, h_o3_1, h_o_r_s_1, h_o_r_states_1, h_r_held_8, trivial⟩
        clear hm
        have L1 : ∀ (n1 : Nat) (v3_1 : Int) (v4_1 : Int) (r_s_1 : (Int → Int)) (r_states_1 : (Int → Int)), z_n v3_1 → z_n v4_1 → z_r r_s_1 → z_r r_states_1 → m_X6_join_l1 N r_told x1 x2 r_held_8 n1 v3_1 v4_1 r_s_1 r_states_1 = some (o3_1, o_r_s_1, o_r_states_1) → z_J X 0 0 ([(r_o, z_o 6 [.ref r_Atext, z_i r_typed, .ref r_Atold, .ref r_Adraft, .ref r_Abegun, .ref r_As, .ref r_Apast, z_i r_known, .ref r_Aimages, z_i r_kept, .ref r_Arings, z_i r_rung, z_i r_at, .ref r_Astates, .ref r_Aheld, .ref r_Ahere, .ref r_Athere]), (r_Atext, z_a G.2.1 200 r_text), (r_Atold, z_a G.2.1 39 r_told), (r_Adraft, z_a G.2.1 39 r_draft), (r_Abegun, z_a G.2.1 73 r_begun), (r_As, z_a G.2.1 73 r_s_1), (r_Apast, z_a G.2.1 584 r_past), (r_Aimages, z_a G.2.1 146 r_images), (r_Arings, z_a G.2.1 6 r_rings), (r_Astates, z_a G.2.1 36 r_states_1), (r_Aheld, z_a G.2.1 73 r_held_8), (r_Ahere, z_a G.2.2.2.2 36 r_here), (r_Athere, z_a G.2.2.2.2 36 r_there)]) [(0, .ref r_o), (1, z_i x1), (2, z_i x2), (3, z_i v3_1), (4, z_i v4_1)] 33 [] := by
          clear hl
          intro n1
          induction n1 with
          | zero =>
            intro v3_1 v4_1 r_s_1 r_states_1 h_v3_1 h_v4_1 h_r_s_1 h_r_states_1 hm
            rw [m_X6_join_l1] at hm
            cases hm
          | succ n1 ih1 =>
            intro v3_1 v4_1 r_s_1 r_states_1 h_v3_1 h_v4_1 h_r_s_1 h_r_states_1 hm
            rw [m_X6_join_l1] at hm
            refine z_iload C dX6_join_33 4 rfl ?_
            refine z_bipush C dX6_join_35 (by decide) ?_
            refine z_icmp_ge (tgt := 84) C h_v4_1 (z_k 31 rfl) dX6_join_37 (by decide) (fun c10 => ?_) (fun c10 => ?_)
            · have hm := z_pos c10 hm
              refine z_sub (L' := [(3, z_i v3_1)]) [3] rfl ?_
              cases hm
              exact JX1 h_v3_1 h_r_s_1 h_r_states_1
            · have hm := z_neg c10 hm
              refine z_iload_n C dX6_join_40 3 rfl ?_
              refine z_bipush C dX6_join_41 (by decide) ?_
              refine z_icmp_ne (tgt := 84) C h_v3_1 (z_k (-4) rfl) dX6_join_43 (by decide) (fun c11 => ?_) (fun c11 => ?_)
              · have hm := z_pos c11 hm
                refine z_sub (L' := [(3, z_i v3_1)]) [3] rfl ?_
                cases hm
                exact JX1 h_v3_1 h_r_s_1 h_r_states_1
              · have hm := z_neg c11 hm
                refine z_iload C dX6_join_46 4 rfl ?_
                obtain ⟨r_s_15, hj, hm⟩ := z_b1s hm
                have J16 : z_r r_s_15 → z_J X 0 0 ([(r_o, z_o 6 [.ref r_Atext, z_i r_typed, .ref r_Atold, .ref r_Adraft, .ref r_Abegun, .ref r_As, .ref r_Apast, z_i r_known, .ref r_Aimages, z_i r_kept, .ref r_Arings, z_i r_rung, z_i r_at, .ref r_Astates, .ref r_Aheld, .ref r_Ahere, .ref r_Athere]), (r_Atext, z_a G.2.1 200 r_text), (r_Atold, z_a G.2.1 39 r_told), (r_Adraft, z_a G.2.1 39 r_draft), (r_Abegun, z_a G.2.1 73 r_begun), (r_As, z_a G.2.1 73 r_s_15), (r_Apast, z_a G.2.1 584 r_past), (r_Aimages, z_a G.2.1 146 r_images), (r_Arings, z_a G.2.1 6 r_rings), (r_Astates, z_a G.2.1 36 r_states_1), (r_Aheld, z_a G.2.1 73 r_held_8), (r_Ahere, z_a G.2.2.2.2 36 r_here), (r_Athere, z_a G.2.2.2.2 36 r_there)]) [(0, .ref r_o), (1, z_i x1), (2, z_i x2), (4, z_i v4_1)] 57 [] := by
                  intro h_r_s_15
                  clear hj
                  refine z_aload_n C dX6_join_57 0 rfl ?_
                  refine z_iload_n C dX6_join_58 1 rfl ?_
                  refine z_iload_n C dX6_join_59 2 rfl ?_
                  obtain ⟨r17, r_states_18, k19, hm⟩ := z_b2s hm
                  refine z_callVid C (k_X6_isOne l G N r_o r_Atext r_Atold r_Adraft r_Abegun r_As r_Apast r_Aimages r_Arings r_Astates r_Aheld r_Ahere r_Athere r_text r_typed r_told r_draft r_begun r_s_15 r_past r_known r_images r_kept r_rings r_rung r_at r_states_1 r_held_8 r_here r_there x1 x2 h_r_text h_r_typed h_r_told h_r_draft h_r_begun h_r_s_15 h_r_past h_r_known h_r_images h_r_kept h_r_rings h_r_rung h_r_at h_r_states_1 h_r_held_8 h_r_here h_r_there h_x1 h_x2 r17 r_states_18 k19) zv_X6_isOne zl_X6_146 dX6_join_60 rfl 0 rfl rfl rfl [] rfl (Nat.le_of_ble_eq_true rfl) ⟨Nat.le_of_ble_eq_true rfl, Nat.le_of_ble_eq_true rfl⟩ ⟨rfl, rfl⟩ ⟨Nat.zero_le _, Nat.zero_le _⟩ (fun hF => ?_)
                  obtain ⟨hb_r17, h_r_states_18, -⟩ := hF
                  obtain ⟨s21, hj, hm⟩ := z_b1s hm
                  have J22 : z_n s21 → z_J X 0 0 ([(r_o, z_o 6 [.ref r_Atext, z_i r_typed, .ref r_Atold, .ref r_Adraft, .ref r_Abegun, .ref r_As, .ref r_Apast, z_i r_known, .ref r_Aimages, z_i r_kept, .ref r_Arings, z_i r_rung, z_i r_at, .ref r_Astates, .ref r_Aheld, .ref r_Ahere, .ref r_Athere]), (r_Atext, z_a G.2.1 200 r_text), (r_Atold, z_a G.2.1 39 r_told), (r_Adraft, z_a G.2.1 39 r_draft), (r_Abegun, z_a G.2.1 73 r_begun), (r_As, z_a G.2.1 73 r_s_15), (r_Apast, z_a G.2.1 584 r_past), (r_Aimages, z_a G.2.1 146 r_images), (r_Arings, z_a G.2.1 6 r_rings), (r_Astates, z_a G.2.1 36 r_states_18), (r_Aheld, z_a G.2.1 73 r_held_8), (r_Ahere, z_a G.2.2.2.2 36 r_here), (r_Athere, z_a G.2.2.2.2 36 r_there)]) [(0, .ref r_o), (1, z_i x1), (2, z_i x2), (4, z_i v4_1)] 73 [z_i s21] := by
                    intro h_s21
                    clear hj
                    refine z_istore_n C dX6_join_73 (by decide) (L' := [(3, z_i s21), (0, .ref r_o), (1, z_i x1), (2, z_i x2), (4, z_i v4_1)]) rfl ?_
                    refine z_aload_n C dX6_join_74 1 rfl ?_
                    obtain ⟨r_s_23, k24, hm⟩ := z_b1s hm
                    refine z_callVvd C (k_X6_lets l G N r_o r_Atext r_Atold r_Adraft r_Abegun r_As r_Apast r_Aimages r_Arings r_Astates r_Aheld r_Ahere r_Athere r_text r_typed r_told r_draft r_begun r_s_15 r_past r_known r_images r_kept r_rings r_rung r_at r_states_18 r_held_8 r_here r_there h_r_text h_r_typed h_r_told h_r_draft h_r_begun h_r_s_15 h_r_past h_r_known h_r_images h_r_kept h_r_rings h_r_rung h_r_at h_r_states_18 h_r_held_8 h_r_here h_r_there r_s_23 k24) zv_X6_lets zl_X6_140 dX6_join_75 rfl 0 rfl rfl rfl [] rfl (Nat.le_of_ble_eq_true rfl) ⟨Nat.le_of_ble_eq_true rfl, Nat.le_of_ble_eq_true rfl⟩ ⟨rfl, rfl⟩ ⟨Nat.zero_le _, Nat.zero_le _⟩ (fun hF => ?_)
                    obtain ⟨h_r_s_23, -⟩ := hF
                    obtain ⟨c25, hm⟩ := z_chk_some hm
                    refine z_iinc C dX6_join_78 4 rfl (by decide) (L' := [(4, z_i (v4_1 + 1)), (3, z_i s21), (0, .ref r_o), (1, z_i x1), (2, z_i x2)]) rfl ?_
                    refine z_goto (tgt := 33) C dX6_join_81 (by decide) ?_
                    refine z_sub (L' := [(0, .ref r_o), (1, z_i x1), (2, z_i x2), (3, z_i s21), (4, z_i (v4_1 + 1))]) [2, 3, 4, 1, 0] rfl ?_
                    exact ih1 s21 (v4_1 + 1) r_s_23 r_states_18 h_s21 c25 h_r_s_23 h_r_states_18 hm
                  replace hm := hj
                  clear hj
                  refine z_if_eq (tgt := 71) C (z_n01 hb_r17) dX6_join_63 (by decide) (fun c20 => ?_) (fun c20 => ?_)
                  · have hm := z_pos c20 hm
                    refine z_bipush C dX6_join_71 (by decide) ?_
                    cases hm
                    exact J22 (z_k (-4) rfl)
                  · have hm := z_neg c20 hm
                    refine z_iload C dX6_join_66 3 rfl ?_
                    refine z_goto (tgt := 73) C dX6_join_68 (by decide) ?_
                    cases hm
                    exact J22 h_v4_1
                replace hm := hj
                clear hj
                refine z_if_le (tgt := 57) C h_v4_1 dX6_join_48 (by decide) (fun c12 => ?_) (fun c12 => ?_)
                · have hm := z_pos c12 hm
                  refine z_sub (L' := [(0, .ref r_o), (1, z_i x1), (2, z_i x2), (4, z_i v4_1)]) [0, 1, 2, 4] rfl ?_
                  cases hm
                  exact J16 h_r_s_1
                · have hm := z_neg c12 hm
                  refine z_aload_n C dX6_join_51 0 rfl ?_
                  refine z_iload C dX6_join_52 4 rfl ?_
                  obtain ⟨r_s_13, k14, hm⟩ := z_b1s hm
                  refine z_callVvd C (k_X6_pours l G N r_o r_Atext r_Atold r_Adraft r_Abegun r_As r_Apast r_Aimages r_Arings r_Astates r_Aheld r_Ahere r_Athere r_text r_typed r_told r_draft r_begun r_s_1 r_past r_known r_images r_kept r_rings r_rung r_at r_states_1 r_held_8 r_here r_there v4_1 h_r_text h_r_typed h_r_told h_r_draft h_r_begun h_r_s_1 h_r_past h_r_known h_r_images h_r_kept h_r_rings h_r_rung h_r_at h_r_states_1 h_r_held_8 h_r_here h_r_there h_v4_1 r_s_13 k14) zv_X6_pours zl_X6_127 dX6_join_54 rfl 0 rfl rfl rfl [] rfl (Nat.le_of_ble_eq_true rfl) ⟨Nat.le_of_ble_eq_true rfl, Nat.le_of_ble_eq_true rfl⟩ ⟨rfl, rfl⟩ ⟨Nat.zero_le _, Nat.zero_le _⟩ (fun hF => ?_)
                  obtain ⟨h_r_s_13, -⟩ := hF
                  refine z_sub (L' := [(0, .ref r_o), (1, z_i x1), (2, z_i x2), (4, z_i v4_1)]) [0, 1, 2, 4] rfl ?_
                  cases hm
                  exact J16 h_r_s_13
        refine z_sub (L' := [(0, .ref r_o), (1, z_i x1), (2, z_i x2), (3, z_i (-4)), (4, z_i 0)]) [2, 3, 4, 1, 0] rfl ?_
        exact L1 N (-4) 0 r_s r_states (z_k (-4) rfl) (z_k 0 rfl) h_r_s h_r_states hl
      · have hm := z_neg c7 hm
        refine z_iconst C dX6_join_21 ?_
        cases hm
        exact z_iret C E dX6_join_22 ⟨rfl, rfl, (z_k (-1) rfl), h_r_s, h_r_states, h_r_held, trivial⟩
set_option maxRecDepth 100000 in
theorem k_X6_part (l : Launch) (G : z_G) (N : Nat) (r_o r_Atext r_Atold r_Adraft r_Abegun r_As r_Apast r_Aimages r_Arings r_Astates r_Aheld r_Ahere r_Athere : Nat) (r_text : (Int → Int)) (r_typed : Int) (r_told : (Int → Int)) (r_draft : (Int → Int)) (r_begun : (Int → Int)) (r_s : (Int → Int)) (r_past : (Int → Int)) (r_known : Int) (r_images : (Int → Int)) (r_kept : Int) (r_rings : (Int → Int)) (r_rung : Int) (r_at : Int) (r_states : (Int → Int)) (r_held : (Int → Int)) (r_here : (Int → Int)) (r_there : (Int → Int)) (x1 : Int) (x2 : Int) (h_r_text : z_r r_text) (h_r_typed : z_n r_typed) (h_r_told : z_r r_told) (h_r_draft : z_r r_draft) (h_r_begun : z_r r_begun) (h_r_s : z_r r_s) (h_r_past : z_r r_past) (h_r_known : z_n r_known) (h_r_images : z_r r_images) (h_r_kept : z_n r_kept) (h_r_rings : z_r r_rings) (h_r_rung : z_n r_rung) (h_r_at : z_n r_at) (h_r_states : z_r r_states) (h_r_held : z_r r_held) (h_r_here : z_r r_here) (h_r_there : z_r r_there) (h_x1 : z_n x1) (h_x2 : z_n x2) (rr : Int) (q_r_s : (Int → Int)) (q_r_states : (Int → Int)) (q_r_held : (Int → Int)) (hm : m_X6_part N r_told r_s r_states r_held x1 x2 = some (rr, q_r_s, q_r_states, q_r_held)) : z_M l G yX6_part cX6_part 5 (some .int) (k2_rm 6 139) [.ref r_o, z_i x1, z_i x2] ([(r_o, z_o 6 [.ref r_Atext, z_i r_typed, .ref r_Atold, .ref r_Adraft, .ref r_Abegun, .ref r_As, .ref r_Apast, z_i r_known, .ref r_Aimages, z_i r_kept, .ref r_Arings, z_i r_rung, z_i r_at, .ref r_Astates, .ref r_Aheld, .ref r_Ahere, .ref r_Athere]), (r_Atext, z_a G.2.1 200 r_text), (r_Atold, z_a G.2.1 39 r_told), (r_Adraft, z_a G.2.1 39 r_draft), (r_Abegun, z_a G.2.1 73 r_begun), (r_As, z_a G.2.1 73 r_s), (r_Apast, z_a G.2.1 584 r_past), (r_Aimages, z_a G.2.1 146 r_images), (r_Arings, z_a G.2.1 6 r_rings), (r_Astates, z_a G.2.1 36 r_states), (r_Aheld, z_a G.2.1 73 r_held), (r_Ahere, z_a G.2.2.2.2 36 r_here), (r_Athere, z_a G.2.2.2.2 36 r_there)]) 0 0 (fun v w => v = some (z_i rr) ∧ w = [(r_o, z_o 6 [.ref r_Atext, z_i r_typed, .ref r_Atold, .ref r_Adraft, .ref r_Abegun, .ref r_As, .ref r_Apast, z_i r_known, .ref r_Aimages, z_i r_kept, .ref r_Arings, z_i r_rung, z_i r_at, .ref r_Astates, .ref r_Aheld, .ref r_Ahere, .ref r_Athere]), (r_Atext, z_a G.2.1 200 r_text), (r_Atold, z_a G.2.1 39 r_told), (r_Adraft, z_a G.2.1 39 r_draft), (r_Abegun, z_a G.2.1 73 r_begun), (r_As, z_a G.2.1 73 q_r_s), (r_Apast, z_a G.2.1 584 r_past), (r_Aimages, z_a G.2.1 146 r_images), (r_Arings, z_a G.2.1 6 r_rings), (r_Astates, z_a G.2.1 36 q_r_states), (r_Aheld, z_a G.2.1 73 q_r_held), (r_Ahere, z_a G.2.2.2.2 36 r_here), (r_Athere, z_a G.2.2.2.2 36 r_there)] ∧ z_n rr ∧ z_r q_r_s ∧ z_r q_r_states ∧ z_r q_r_held ∧ True) := by
  unfold m_X6_part at hm
  refine z_M.intro (by decide +kernel) (Nat.le_of_ble_eq_true rfl) (L := [(0, .ref r_o), (1, z_i x1), (2, z_i x2)]) rfl (fun X C E => ?_)
  refine z_aload_n C dX6_part_0 0 rfl ?_
  refine z_iload_n C dX6_part_1 1 rfl ?_
  obtain ⟨r1, k2, hm⟩ := z_b1s hm
  refine z_callVid C (k_X6_isCell l G N r_o r_Atext r_Atold r_Adraft r_Abegun r_As r_Apast r_Aimages r_Arings r_Astates r_Aheld r_Ahere r_Athere r_text r_typed r_told r_draft r_begun r_s r_past r_known r_images r_kept r_rings r_rung r_at r_states r_held r_here r_there x1 h_r_text h_r_typed h_r_told h_r_draft h_r_begun h_r_s h_r_past h_r_known h_r_images h_r_kept h_r_rings h_r_rung h_r_at h_r_states h_r_held h_r_here h_r_there h_x1 r1 k2) zv_X6_isCell zl_X6_98 dX6_part_2 rfl 0 rfl rfl rfl [] rfl (Nat.le_of_ble_eq_true rfl) ⟨Nat.le_of_ble_eq_true rfl, Nat.le_of_ble_eq_true rfl⟩ ⟨rfl, rfl⟩ ⟨Nat.zero_le _, Nat.zero_le _⟩ (fun hF => ?_)
  obtain ⟨hb_r1, -⟩ := hF
  refine z_if_eq (tgt := 21) C (z_n01 hb_r1) dX6_part_5 (by decide) (fun c3 => ?_) (fun c3 => ?_)
  · have hm := z_pos c3 hm
    refine z_iconst C dX6_part_21 ?_
    cases hm
    exact z_iret C E dX6_part_22 ⟨rfl, rfl, (z_k (-1) rfl), h_r_s, h_r_states, h_r_held, trivial⟩
  · have hm := z_neg c3 hm
    refine z_aload_n C dX6_part_8 0 rfl ?_
    refine z_iload_n C dX6_part_9 2 rfl ?_
    obtain ⟨r4, k5, hm⟩ := z_b1s hm
    refine z_callVid C (k_X6_isCell l G N r_o r_Atext r_Atold r_Adraft r_Abegun r_As r_Apast r_Aimages r_Arings r_Astates r_Aheld r_Ahere r_Athere r_text r_typed r_told r_draft r_begun r_s r_past r_known r_images r_kept r_rings r_rung r_at r_states r_held r_here r_there x2 h_r_text h_r_typed h_r_told h_r_draft h_r_begun h_r_s h_r_past h_r_known h_r_images h_r_kept h_r_rings h_r_rung h_r_at h_r_states h_r_held h_r_here h_r_there h_x2 r4 k5) zv_X6_isCell zl_X6_98 dX6_part_10 rfl 0 rfl rfl rfl [] rfl (Nat.le_of_ble_eq_true rfl) ⟨Nat.le_of_ble_eq_true rfl, Nat.le_of_ble_eq_true rfl⟩ ⟨rfl, rfl⟩ ⟨Nat.zero_le _, Nat.zero_le _⟩ (fun hF => ?_)
    obtain ⟨hb_r4, -⟩ := hF
    refine z_if_eq (tgt := 21) C (z_n01 hb_r4) dX6_part_13 (by decide) (fun c6 => ?_) (fun c6 => ?_)
    · have hm := z_pos c6 hm
      refine z_iconst C dX6_part_21 ?_
      cases hm
      exact z_iret C E dX6_part_22 ⟨rfl, rfl, (z_k (-1) rfl), h_r_s, h_r_states, h_r_held, trivial⟩
    · have hm := z_neg c6 hm
      refine z_iload_n C dX6_part_16 1 rfl ?_
      refine z_iload_n C dX6_part_17 2 rfl ?_
      refine z_icmp_ne (tgt := 23) C h_x1 h_x2 dX6_part_18 (by decide) (fun c7 => ?_) (fun c7 => ?_)
      · have hm := z_pos c7 hm
        refine z_aload_n C dX6_part_23 0 rfl ?_
        refine z_iload_n C dX6_part_24 1 rfl ?_
        refine z_iload_n C dX6_part_25 2 rfl ?_
        obtain ⟨r8, r_states_9, k10, hm⟩ := z_b2s hm
        refine z_callVid C (k_X6_isOne l G N r_o r_Atext r_Atold r_Adraft r_Abegun r_As r_Apast r_Aimages r_Arings r_Astates r_Aheld r_Ahere r_Athere r_text r_typed r_told r_draft r_begun r_s r_past r_known r_images r_kept r_rings r_rung r_at r_states r_held r_here r_there x1 x2 h_r_text h_r_typed h_r_told h_r_draft h_r_begun h_r_s h_r_past h_r_known h_r_images h_r_kept h_r_rings h_r_rung h_r_at h_r_states h_r_held h_r_here h_r_there h_x1 h_x2 r8 r_states_9 k10) zv_X6_isOne zl_X6_146 dX6_part_26 rfl 0 rfl rfl rfl [] rfl (Nat.le_of_ble_eq_true rfl) ⟨Nat.le_of_ble_eq_true rfl, Nat.le_of_ble_eq_true rfl⟩ ⟨rfl, rfl⟩ ⟨Nat.zero_le _, Nat.zero_le _⟩ (fun hF => ?_)
        obtain ⟨hb_r8, h_r_states_9, -⟩ := hF
        refine z_if_ne (tgt := 35) C (z_n01 hb_r8) dX6_part_29 (by decide) (fun c11 => ?_) (fun c11 => ?_)
        · have hm := z_pos c11 hm
          refine z_aload_n C dX6_part_35 0 rfl ?_
          obtain ⟨r_held_12, k13, hm⟩ := z_b1s hm
          refine z_callVvd C (k_X6_holds l G N r_o r_Atext r_Atold r_Adraft r_Abegun r_As r_Apast r_Aimages r_Arings r_Astates r_Aheld r_Ahere r_Athere r_text r_typed r_told r_draft r_begun r_s r_past r_known r_images r_kept r_rings r_rung r_at r_states_9 r_held r_here r_there h_r_text h_r_typed h_r_told h_r_draft h_r_begun h_r_s h_r_past h_r_known h_r_images h_r_kept h_r_rings h_r_rung h_r_at h_r_states_9 h_r_held h_r_here h_r_there r_held_12 k13) zv_X6_holds zl_X6_137 dX6_part_36 rfl 0 rfl rfl rfl [] rfl (Nat.le_of_ble_eq_true rfl) ⟨Nat.le_of_ble_eq_true rfl, Nat.le_of_ble_eq_true rfl⟩ ⟨rfl, rfl⟩ ⟨Nat.zero_le _, Nat.zero_le _⟩ (fun hF => ?_)
          obtain ⟨h_r_held_12, -⟩ := hF
          refine z_bipush C dX6_part_39 (by decide) ?_
          refine z_istore_n C dX6_part_41 (by decide) (L' := [(3, z_i (-4)), (0, .ref r_o), (1, z_i x1), (2, z_i x2)]) rfl ?_
          refine z_iconst C dX6_part_42 ?_
          refine z_istore C dX6_part_43 (by decide) (L' := [(4, z_i 1), (3, z_i (-4)), (0, .ref r_o), (1, z_i x1), (2, z_i x2)]) rfl ?_
          obtain ⟨o3_1, o_r_s_1, o_r_states_1, hl, hm⟩ := z_b3s hm
          have JX1 : z_n o3_1 → z_r o_r_s_1 → z_r o_r_states_1 → z_J X 0 0 ([(r_o, z_o 6 [.ref r_Atext, z_i r_typed, .ref r_Atold, .ref r_Adraft, .ref r_Abegun, .ref r_As, .ref r_Apast, z_i r_known, .ref r_Aimages, z_i r_kept, .ref r_Arings, z_i r_rung, z_i r_at, .ref r_Astates, .ref r_Aheld, .ref r_Ahere, .ref r_Athere]), (r_Atext, z_a G.2.1 200 r_text), (r_Atold, z_a G.2.1 39 r_told), (r_Adraft, z_a G.2.1 39 r_draft), (r_Abegun, z_a G.2.1 73 r_begun), (r_As, z_a G.2.1 73 o_r_s_1), (r_Apast, z_a G.2.1 584 r_past), (r_Aimages, z_a G.2.1 146 r_images), (r_Arings, z_a G.2.1 6 r_rings), (r_Astates, z_a G.2.1 36 o_r_states_1), (r_Aheld, z_a G.2.1 73 r_held_12), (r_Ahere, z_a G.2.2.2.2 36 r_here), (r_Athere, z_a G.2.2.2.2 36 r_there)]) [(0, .ref r_o), (3, z_i o3_1)] 85 [] := by
            intro h_o3_1 h_o_r_s_1 h_o_r_states_1
            clear hl
            refine z_aload_n C dX6_part_85 0 rfl ?_
            obtain ⟨r_s_24, k25, hm⟩ := z_b1s hm
            refine z_callVvd C (k_X6_lets l G N r_o r_Atext r_Atold r_Adraft r_Abegun r_As r_Apast r_Aimages r_Arings r_Astates r_Aheld r_Ahere r_Athere r_text r_typed r_told r_draft r_begun o_r_s_1 r_past r_known r_images r_kept r_rings r_rung r_at o_r_states_1 r_held_12 r_here r_there h_r_text h_r_typed h_r_told h_r_draft h_r_begun h_o_r_s_1 h_r_past h_r_known h_r_images h_r_kept h_r_rings h_r_rung h_r_at h_o_r_states_1 h_r_held_12 h_r_here h_r_there r_s_24 k25) zv_X6_lets zl_X6_140 dX6_part_86 rfl 0 rfl rfl rfl [] rfl (Nat.le_of_ble_eq_true rfl) ⟨Nat.le_of_ble_eq_true rfl, Nat.le_of_ble_eq_true rfl⟩ ⟨rfl, rfl⟩ ⟨Nat.zero_le _, Nat.zero_le _⟩ (fun hF => ?_)
            obtain ⟨h_r_s_24, -⟩ := hF
            refine z_iload_n C dX6_part_89 1 rfl ?_
            cases hm
            exact z_iret C E dX6_part_90 ⟨rfl, rfl, h_o3_1, h_r_s_24, h_o_r_states_1, h_r_held_12, trivial⟩
          clear hm
          have L1 : ∀ (n1 : Nat) (v3_1 : Int) (v4_1 : Int) (r_s_1 : (Int → Int)) (r_states_1 : (Int → Int)), z_n v3_1 → z_n v4_1 → z_r r_s_1 → z_r r_states_1 → m_X6_part_l1 N r_told x1 x2 n1 v3_1 v4_1 r_s_1 r_states_1 = some (o3_1, o_r_s_1, o_r_states_1) → z_J X 0 0 ([(r_o, z_o 6 [.ref r_Atext, z_i r_typed, .ref r_Atold, .ref r_Adraft, .ref r_Abegun, .ref r_As, .ref r_Apast, z_i r_known, .ref r_Aimages, z_i r_kept, .ref r_Arings, z_i r_rung, z_i r_at, .ref r_Astates, .ref r_Aheld, .ref r_Ahere, .ref r_Athere]), (r_Atext, z_a G.2.1 200 r_text), (r_Atold, z_a G.2.1 39 r_told), (r_Adraft, z_a G.2.1 39 r_draft), (r_Abegun, z_a G.2.1 73 r_begun), (r_As, z_a G.2.1 73 r_s_1), (r_Apast, z_a G.2.1 584 r_past), (r_Aimages, z_a G.2.1 146 r_images), (r_Arings, z_a G.2.1 6 r_rings), (r_Astates, z_a G.2.1 36 r_states_1), (r_Aheld, z_a G.2.1 73 r_held_12), (r_Ahere, z_a G.2.2.2.2 36 r_here), (r_Athere, z_a G.2.2.2.2 36 r_there)]) [(0, .ref r_o), (1, z_i x1), (2, z_i x2), (3, z_i v3_1), (4, z_i v4_1)] 45 [] := by
            clear hl
            intro n1
            induction n1 with
            | zero =>
              intro v3_1 v4_1 r_s_1 r_states_1 h_v3_1 h_v4_1 h_r_s_1 h_r_states_1 hm
              rw [m_X6_part_l1] at hm
              cases hm
            | succ n1 ih1 =>
              intro v3_1 v4_1 r_s_1 r_states_1 h_v3_1 h_v4_1 h_r_s_1 h_r_states_1 hm
              rw [m_X6_part_l1] at hm
              refine z_iload C dX6_part_45 4 rfl ?_
              refine z_bipush C dX6_part_47 (by decide) ?_
              refine z_icmp_ge (tgt := 85) C h_v4_1 (z_k 61 rfl) dX6_part_49 (by decide) (fun c14 => ?_) (fun c14 => ?_)
              · have hm := z_pos c14 hm
                refine z_sub (L' := [(0, .ref r_o), (3, z_i v3_1)]) [0, 3] rfl ?_
                cases hm
                exact JX1 h_v3_1 h_r_s_1 h_r_states_1
              · have hm := z_neg c14 hm
                refine z_iload_n C dX6_part_52 3 rfl ?_
                refine z_bipush C dX6_part_53 (by decide) ?_
                refine z_icmp_ne (tgt := 85) C h_v3_1 (z_k (-4) rfl) dX6_part_55 (by decide) (fun c15 => ?_) (fun c15 => ?_)
                · have hm := z_pos c15 hm
                  refine z_sub (L' := [(0, .ref r_o), (3, z_i v3_1)]) [0, 3] rfl ?_
                  cases hm
                  exact JX1 h_v3_1 h_r_s_1 h_r_states_1
                · have hm := z_neg c15 hm
                  refine z_aload_n C dX6_part_58 0 rfl ?_
                  obtain ⟨r_s_16, k17, hm⟩ := z_b1s hm
                  refine z_callVvd C (k_X6_shines l G N r_o r_Atext r_Atold r_Adraft r_Abegun r_As r_Apast r_Aimages r_Arings r_Astates r_Aheld r_Ahere r_Athere r_text r_typed r_told r_draft r_begun r_s_1 r_past r_known r_images r_kept r_rings r_rung r_at r_states_1 r_held_12 r_here r_there h_r_text h_r_typed h_r_told h_r_draft h_r_begun h_r_s_1 h_r_past h_r_known h_r_images h_r_kept h_r_rings h_r_rung h_r_at h_r_states_1 h_r_held_12 h_r_here h_r_there r_s_16 k17) zv_X6_shines zl_X6_134 dX6_part_59 rfl 0 rfl rfl rfl [] rfl (Nat.le_of_ble_eq_true rfl) ⟨Nat.le_of_ble_eq_true rfl, Nat.le_of_ble_eq_true rfl⟩ ⟨rfl, rfl⟩ ⟨Nat.zero_le _, Nat.zero_le _⟩ (fun hF => ?_)
                  obtain ⟨h_r_s_16, -⟩ := hF
                  refine z_aload_n C dX6_part_62 0 rfl ?_
                  refine z_iload_n C dX6_part_63 1 rfl ?_
                  refine z_iload_n C dX6_part_64 2 rfl ?_
                  obtain ⟨r18, r_states_19, k20, hm⟩ := z_b2s hm
                  refine z_callVid C (k_X6_isOne l G N r_o r_Atext r_Atold r_Adraft r_Abegun r_As r_Apast r_Aimages r_Arings r_Astates r_Aheld r_Ahere r_Athere r_text r_typed r_told r_draft r_begun r_s_16 r_past r_known r_images r_kept r_rings r_rung r_at r_states_1 r_held_12 r_here r_there x1 x2 h_r_text h_r_typed h_r_told h_r_draft h_r_begun h_r_s_16 h_r_past h_r_known h_r_images h_r_kept h_r_rings h_r_rung h_r_at h_r_states_1 h_r_held_12 h_r_here h_r_there h_x1 h_x2 r18 r_states_19 k20) zv_X6_isOne zl_X6_146 dX6_part_65 rfl 0 rfl rfl rfl [] rfl (Nat.le_of_ble_eq_true rfl) ⟨Nat.le_of_ble_eq_true rfl, Nat.le_of_ble_eq_true rfl⟩ ⟨rfl, rfl⟩ ⟨Nat.zero_le _, Nat.zero_le _⟩ (fun hF => ?_)
                  obtain ⟨hb_r18, h_r_states_19, -⟩ := hF
                  refine z_if_eq (tgt := 76) C (z_n01 hb_r18) dX6_part_68 (by decide) (fun c21 => ?_) (fun c21 => ?_)
                  · have hm := z_pos c21 hm
                    refine z_iload C dX6_part_76 4 rfl ?_
                    refine z_istore_n C dX6_part_78 (by decide) (L' := [(3, z_i v4_1), (0, .ref r_o), (1, z_i x1), (2, z_i x2), (4, z_i v4_1)]) rfl ?_
                    obtain ⟨c22, hm⟩ := z_chk_some hm
                    refine z_iinc C dX6_part_79 4 rfl (by decide) (L' := [(4, z_i (v4_1 + 1)), (3, z_i v4_1), (0, .ref r_o), (1, z_i x1), (2, z_i x2)]) rfl ?_
                    refine z_goto (tgt := 45) C dX6_part_82 (by decide) ?_
                    refine z_sub (L' := [(0, .ref r_o), (1, z_i x1), (2, z_i x2), (3, z_i v4_1), (4, z_i (v4_1 + 1))]) [2, 3, 4, 1, 0] rfl ?_
                    exact ih1 v4_1 (v4_1 + 1) r_s_16 r_states_19 h_v4_1 c22 h_r_s_16 h_r_states_19 hm
                  · have hm := z_neg c21 hm
                    refine z_bipush C dX6_part_71 (by decide) ?_
                    refine z_goto (tgt := 78) C dX6_part_73 (by decide) ?_
                    refine z_istore_n C dX6_part_78 (by decide) (L' := [(3, z_i (-4)), (0, .ref r_o), (1, z_i x1), (2, z_i x2), (4, z_i v4_1)]) rfl ?_
                    obtain ⟨c23, hm⟩ := z_chk_some hm
                    refine z_iinc C dX6_part_79 4 rfl (by decide) (L' := [(4, z_i (v4_1 + 1)), (3, z_i (-4)), (0, .ref r_o), (1, z_i x1), (2, z_i x2)]) rfl ?_
                    refine z_goto (tgt := 45) C dX6_part_82 (by decide) ?_
                    refine z_sub (L' := [(0, .ref r_o), (1, z_i x1), (2, z_i x2), (3, z_i (-4)), (4, z_i (v4_1 + 1))]) [2, 3, 4, 1, 0] rfl ?_
                    exact ih1 (-4) (v4_1 + 1) r_s_16 r_states_19 (z_k (-4) rfl) c23 h_r_s_16 h_r_states_19 hm
          refine z_sub (L' := [(0, .ref r_o), (1, z_i x1), (2, z_i x2), (3, z_i (-4)), (4, z_i 1)]) [2, 3, 4, 1, 0] rfl ?_
          exact L1 N (-4) 1 r_s r_states_9 (z_k (-4) rfl) (z_k 1 rfl) h_r_s h_r_states_9 hl
        · have hm := z_neg c11 hm
          refine z_bipush C dX6_part_32 (by decide) ?_
          cases hm
          exact z_iret C E dX6_part_34 ⟨rfl, rfl, (z_k (-2) rfl), h_r_s, h_r_states_9, h_r_held, trivial⟩
      · have hm := z_neg c7 hm
        refine z_iconst C dX6_part_21 ?_
        cases hm
        exact z_iret C E dX6_part_22 ⟨rfl, rfl, (z_k (-1) rfl), h_r_s, h_r_states, h_r_held, trivial⟩
