set_option maxRecDepth 100000 in
theorem k_X6_sun (l : Launch) (G : z_G) (N : Nat) (r_o r_Atext r_Atold r_Adraft r_Abegun r_As r_Apast r_Aimages r_Arings r_Astates r_Aheld r_Ahere r_Athere : Nat) (r_text : (Int → Int)) (r_typed : Int) (r_told : (Int → Int)) (r_draft : (Int → Int)) (r_begun : (Int → Int)) (r_s : (Int → Int)) (r_past : (Int → Int)) (r_known : Int) (r_images : (Int → Int)) (r_kept : Int) (r_rings : (Int → Int)) (r_rung : Int) (r_at : Int) (r_states : (Int → Int)) (r_held : (Int → Int)) (r_here : (Int → Int)) (r_there : (Int → Int)) (x1 : Int) (x2 : Int) (x3 : Int) (x4 : Int) (h_r_text : z_r r_text) (h_r_typed : z_n r_typed) (h_r_told : z_r r_told) (h_r_draft : z_r r_draft) (h_r_begun : z_r r_begun) (h_r_s : z_r r_s) (h_r_past : z_r r_past) (h_r_known : z_n r_known) (h_r_images : z_r r_images) (h_r_kept : z_n r_kept) (h_r_rings : z_r r_rings) (h_r_rung : z_n r_rung) (h_r_at : z_n r_at) (h_r_states : z_r r_states) (h_r_held : z_r r_held) (h_r_here : z_r r_here) (h_r_there : z_r r_there) (h_x1 : z_n x1) (h_x2 : z_n x2) (h_x3 : z_n x3) (h_x4 : z_n x4) (rr : Int) (q_r_s : (Int → Int)) (q_r_held : (Int → Int)) (hm : m_X6_sun N r_told r_s r_held x1 x2 x3 x4 = some (rr, q_r_s, q_r_held)) : z_M l G yX6_sun cX6_sun 11 (some .int) (k2_rm 6 139) [.ref r_o, z_i x1, z_i x2, z_i x3, z_i x4] ([(r_o, z_o 6 [.ref r_Atext, z_i r_typed, .ref r_Atold, .ref r_Adraft, .ref r_Abegun, .ref r_As, .ref r_Apast, z_i r_known, .ref r_Aimages, z_i r_kept, .ref r_Arings, z_i r_rung, z_i r_at, .ref r_Astates, .ref r_Aheld, .ref r_Ahere, .ref r_Athere]), (r_Atext, z_a G.2.1 200 r_text), (r_Atold, z_a G.2.1 39 r_told), (r_Adraft, z_a G.2.1 39 r_draft), (r_Abegun, z_a G.2.1 73 r_begun), (r_As, z_a G.2.1 73 r_s), (r_Apast, z_a G.2.1 584 r_past), (r_Aimages, z_a G.2.1 146 r_images), (r_Arings, z_a G.2.1 6 r_rings), (r_Astates, z_a G.2.1 36 r_states), (r_Aheld, z_a G.2.1 73 r_held), (r_Ahere, z_a G.2.2.2.2 36 r_here), (r_Athere, z_a G.2.2.2.2 36 r_there)]) 0 0 (fun v w => v = some (z_i rr) ∧ w = [(r_o, z_o 6 [.ref r_Atext, z_i r_typed, .ref r_Atold, .ref r_Adraft, .ref r_Abegun, .ref r_As, .ref r_Apast, z_i r_known, .ref r_Aimages, z_i r_kept, .ref r_Arings, z_i r_rung, z_i r_at, .ref r_Astates, .ref r_Aheld, .ref r_Ahere, .ref r_Athere]), (r_Atext, z_a G.2.1 200 r_text), (r_Atold, z_a G.2.1 39 r_told), (r_Adraft, z_a G.2.1 39 r_draft), (r_Abegun, z_a G.2.1 73 r_begun), (r_As, z_a G.2.1 73 q_r_s), (r_Apast, z_a G.2.1 584 r_past), (r_Aimages, z_a G.2.1 146 r_images), (r_Arings, z_a G.2.1 6 r_rings), (r_Astates, z_a G.2.1 36 r_states), (r_Aheld, z_a G.2.1 73 q_r_held), (r_Ahere, z_a G.2.2.2.2 36 r_here), (r_Athere, z_a G.2.2.2.2 36 r_there)] ∧ z_n rr ∧ z_r q_r_s ∧ z_r q_r_held ∧ True) := by
  unfold m_X6_sun at hm
  refine z_M.intro (by decide +kernel) (Nat.le_of_ble_eq_true rfl) (L := [(0, .ref r_o), (1, z_i x1), (2, z_i x2), (3, z_i x3), (4, z_i x4)]) rfl (fun X C E => ?_)
  refine z_aload_n C dX6_sun_0 0 rfl ?_
  refine z_iload_n C dX6_sun_1 1 rfl ?_
  obtain ⟨r1, k2, hm⟩ := z_b1s hm
  refine z_callVid C (k_X6_isCell l G N r_o r_Atext r_Atold r_Adraft r_Abegun r_As r_Apast r_Aimages r_Arings r_Astates r_Aheld r_Ahere r_Athere r_text r_typed r_told r_draft r_begun r_s r_past r_known r_images r_kept r_rings r_rung r_at r_states r_held r_here r_there x1 h_r_text h_r_typed h_r_told h_r_draft h_r_begun h_r_s h_r_past h_r_known h_r_images h_r_kept h_r_rings h_r_rung h_r_at h_r_states h_r_held h_r_here h_r_there h_x1 r1 k2) zv_X6_isCell zl_X6_98 dX6_sun_2 rfl 0 rfl rfl rfl [] rfl (Nat.le_of_ble_eq_true rfl) ⟨Nat.le_of_ble_eq_true rfl, Nat.le_of_ble_eq_true rfl⟩ ⟨rfl, rfl⟩ ⟨Nat.zero_le _, Nat.zero_le _⟩ (fun hF => ?_)
  obtain ⟨hb_r1, -⟩ := hF
  refine z_if_eq (tgt := 38) C (z_n01 hb_r1) dX6_sun_5 (by decide) (fun c3 => ?_) (fun c3 => ?_)
  · have hm := z_pos c3 hm
    refine z_iconst C dX6_sun_38 ?_
    cases hm
    exact z_iret C E dX6_sun_39 ⟨rfl, rfl, (z_k (-1) rfl), h_r_s, h_r_held, trivial⟩
  · have hm := z_neg c3 hm
    refine z_iload_n C dX6_sun_8 2 rfl ?_
    refine z_iconst C dX6_sun_9 ?_
    refine z_bipush C dX6_sun_10 (by decide) ?_
    obtain ⟨r4, k5, hm⟩ := z_b1s hm
    refine z_callSi C (k_X6_in l G N x2 0 6 h_x2 (z_k 0 rfl) (z_k 6 rfl) r4 k5) zs_X6_in zl_X6_57 dX6_sun_12 [] rfl rfl rfl (ws' := [(r_o, z_o 6 [.ref r_Atext, z_i r_typed, .ref r_Atold, .ref r_Adraft, .ref r_Abegun, .ref r_As, .ref r_Apast, z_i r_known, .ref r_Aimages, z_i r_kept, .ref r_Arings, z_i r_rung, z_i r_at, .ref r_Astates, .ref r_Aheld, .ref r_Ahere, .ref r_Athere]), (r_Atext, z_a G.2.1 200 r_text), (r_Atold, z_a G.2.1 39 r_told), (r_Adraft, z_a G.2.1 39 r_draft), (r_Abegun, z_a G.2.1 73 r_begun), (r_As, z_a G.2.1 73 r_s), (r_Apast, z_a G.2.1 584 r_past), (r_Aimages, z_a G.2.1 146 r_images), (r_Arings, z_a G.2.1 6 r_rings), (r_Astates, z_a G.2.1 36 r_states), (r_Aheld, z_a G.2.1 73 r_held), (r_Ahere, z_a G.2.2.2.2 36 r_here), (r_Athere, z_a G.2.2.2.2 36 r_there)]) rfl rfl [] rfl (Nat.le_of_ble_eq_true rfl) ⟨Nat.le_of_ble_eq_true rfl, Nat.le_of_ble_eq_true rfl⟩ ⟨rfl, rfl⟩ ⟨Nat.zero_le _, Nat.zero_le _⟩ (fun hF => ?_)
    obtain ⟨hb_r4, -⟩ := hF
    refine z_if_eq (tgt := 38) C (z_n01 hb_r4) dX6_sun_15 (by decide) (fun c6 => ?_) (fun c6 => ?_)
    · have hm := z_pos c6 hm
      refine z_iconst C dX6_sun_38 ?_
      cases hm
      exact z_iret C E dX6_sun_39 ⟨rfl, rfl, (z_k (-1) rfl), h_r_s, h_r_held, trivial⟩
    · have hm := z_neg c6 hm
      refine z_iload_n C dX6_sun_18 3 rfl ?_
      refine z_iconst C dX6_sun_19 ?_
      refine z_bipush C dX6_sun_20 (by decide) ?_
      obtain ⟨r7, k8, hm⟩ := z_b1s hm
      refine z_callSi C (k_X6_in l G N x3 0 10 h_x3 (z_k 0 rfl) (z_k 10 rfl) r7 k8) zs_X6_in zl_X6_57 dX6_sun_22 [] rfl rfl rfl (ws' := [(r_o, z_o 6 [.ref r_Atext, z_i r_typed, .ref r_Atold, .ref r_Adraft, .ref r_Abegun, .ref r_As, .ref r_Apast, z_i r_known, .ref r_Aimages, z_i r_kept, .ref r_Arings, z_i r_rung, z_i r_at, .ref r_Astates, .ref r_Aheld, .ref r_Ahere, .ref r_Athere]), (r_Atext, z_a G.2.1 200 r_text), (r_Atold, z_a G.2.1 39 r_told), (r_Adraft, z_a G.2.1 39 r_draft), (r_Abegun, z_a G.2.1 73 r_begun), (r_As, z_a G.2.1 73 r_s), (r_Apast, z_a G.2.1 584 r_past), (r_Aimages, z_a G.2.1 146 r_images), (r_Arings, z_a G.2.1 6 r_rings), (r_Astates, z_a G.2.1 36 r_states), (r_Aheld, z_a G.2.1 73 r_held), (r_Ahere, z_a G.2.2.2.2 36 r_here), (r_Athere, z_a G.2.2.2.2 36 r_there)]) rfl rfl [] rfl (Nat.le_of_ble_eq_true rfl) ⟨Nat.le_of_ble_eq_true rfl, Nat.le_of_ble_eq_true rfl⟩ ⟨rfl, rfl⟩ ⟨Nat.zero_le _, Nat.zero_le _⟩ (fun hF => ?_)
      obtain ⟨hb_r7, -⟩ := hF
      refine z_if_eq (tgt := 38) C (z_n01 hb_r7) dX6_sun_25 (by decide) (fun c9 => ?_) (fun c9 => ?_)
      · have hm := z_pos c9 hm
        refine z_iconst C dX6_sun_38 ?_
        cases hm
        exact z_iret C E dX6_sun_39 ⟨rfl, rfl, (z_k (-1) rfl), h_r_s, h_r_held, trivial⟩
      · have hm := z_neg c9 hm
        refine z_iload C dX6_sun_28 4 rfl ?_
        refine z_iconst C dX6_sun_30 ?_
        refine z_iconst C dX6_sun_31 ?_
        obtain ⟨r10, k11, hm⟩ := z_b1s hm
        refine z_callSi C (k_X6_in l G N x4 0 1 h_x4 (z_k 0 rfl) (z_k 1 rfl) r10 k11) zs_X6_in zl_X6_57 dX6_sun_32 [] rfl rfl rfl (ws' := [(r_o, z_o 6 [.ref r_Atext, z_i r_typed, .ref r_Atold, .ref r_Adraft, .ref r_Abegun, .ref r_As, .ref r_Apast, z_i r_known, .ref r_Aimages, z_i r_kept, .ref r_Arings, z_i r_rung, z_i r_at, .ref r_Astates, .ref r_Aheld, .ref r_Ahere, .ref r_Athere]), (r_Atext, z_a G.2.1 200 r_text), (r_Atold, z_a G.2.1 39 r_told), (r_Adraft, z_a G.2.1 39 r_draft), (r_Abegun, z_a G.2.1 73 r_begun), (r_As, z_a G.2.1 73 r_s), (r_Apast, z_a G.2.1 584 r_past), (r_Aimages, z_a G.2.1 146 r_images), (r_Arings, z_a G.2.1 6 r_rings), (r_Astates, z_a G.2.1 36 r_states), (r_Aheld, z_a G.2.1 73 r_held), (r_Ahere, z_a G.2.2.2.2 36 r_here), (r_Athere, z_a G.2.2.2.2 36 r_there)]) rfl rfl [] rfl (Nat.le_of_ble_eq_true rfl) ⟨Nat.le_of_ble_eq_true rfl, Nat.le_of_ble_eq_true rfl⟩ ⟨rfl, rfl⟩ ⟨Nat.zero_le _, Nat.zero_le _⟩ (fun hF => ?_)
        obtain ⟨hb_r10, -⟩ := hF
        refine z_if_ne (tgt := 40) C (z_n01 hb_r10) dX6_sun_35 (by decide) (fun c12 => ?_) (fun c12 => ?_)
        · have hm := z_pos c12 hm
          refine z_aload_n C dX6_sun_40 0 rfl ?_
          obtain ⟨r_held_13, k14, hm⟩ := z_b1s hm
          refine z_callVvd C (k_X6_holds l G N r_o r_Atext r_Atold r_Adraft r_Abegun r_As r_Apast r_Aimages r_Arings r_Astates r_Aheld r_Ahere r_Athere r_text r_typed r_told r_draft r_begun r_s r_past r_known r_images r_kept r_rings r_rung r_at r_states r_held r_here r_there h_r_text h_r_typed h_r_told h_r_draft h_r_begun h_r_s h_r_past h_r_known h_r_images h_r_kept h_r_rings h_r_rung h_r_at h_r_states h_r_held h_r_here h_r_there r_held_13 k14) zv_X6_holds zl_X6_137 dX6_sun_41 rfl 0 rfl rfl rfl [] rfl (Nat.le_of_ble_eq_true rfl) ⟨Nat.le_of_ble_eq_true rfl, Nat.le_of_ble_eq_true rfl⟩ ⟨rfl, rfl⟩ ⟨Nat.zero_le _, Nat.zero_le _⟩ (fun hF => ?_)
          obtain ⟨h_r_held_13, -⟩ := hF
          refine z_iconst C dX6_sun_44 ?_
          refine z_istore C dX6_sun_45 (by decide) (L' := [(5, z_i 0), (0, .ref r_o), (1, z_i x1), (2, z_i x2), (3, z_i x3), (4, z_i x4)]) rfl ?_
          refine z_iconst C dX6_sun_47 ?_
          refine z_istore C dX6_sun_48 (by decide) (L' := [(6, z_i 1), (5, z_i 0), (0, .ref r_o), (1, z_i x1), (2, z_i x2), (3, z_i x3), (4, z_i x4)]) rfl ?_
          refine z_iconst C dX6_sun_50 ?_
          refine z_istore C dX6_sun_51 (by decide) (L' := [(7, z_i 0), (6, z_i 1), (5, z_i 0), (0, .ref r_o), (1, z_i x1), (2, z_i x2), (3, z_i x3), (4, z_i x4)]) rfl ?_
          obtain ⟨o6_1, hl, hm⟩ := z_b1s hm
          have JX1 : z_n o6_1 → z_J X 0 0 ([(r_o, z_o 6 [.ref r_Atext, z_i r_typed, .ref r_Atold, .ref r_Adraft, .ref r_Abegun, .ref r_As, .ref r_Apast, z_i r_known, .ref r_Aimages, z_i r_kept, .ref r_Arings, z_i r_rung, z_i r_at, .ref r_Astates, .ref r_Aheld, .ref r_Ahere, .ref r_Athere]), (r_Atext, z_a G.2.1 200 r_text), (r_Atold, z_a G.2.1 39 r_told), (r_Adraft, z_a G.2.1 39 r_draft), (r_Abegun, z_a G.2.1 73 r_begun), (r_As, z_a G.2.1 73 r_s), (r_Apast, z_a G.2.1 584 r_past), (r_Aimages, z_a G.2.1 146 r_images), (r_Arings, z_a G.2.1 6 r_rings), (r_Astates, z_a G.2.1 36 r_states), (r_Aheld, z_a G.2.1 73 r_held_13), (r_Ahere, z_a G.2.2.2.2 36 r_here), (r_Athere, z_a G.2.2.2.2 36 r_there)]) [(0, .ref r_o), (1, z_i x1), (2, z_i x2), (3, z_i x3), (4, z_i x4), (5, z_i 0), (6, z_i o6_1)] 72 [] := by
            intro h_o6_1
            clear hl
            refine z_iconst C dX6_sun_72 ?_
            refine z_istore C dX6_sun_73 (by decide) (L' := [(7, z_i 0), (0, .ref r_o), (1, z_i x1), (2, z_i x2), (3, z_i x3), (4, z_i x4), (5, z_i 0), (6, z_i o6_1)]) rfl ?_
            obtain ⟨o5_2, o_r_s_2, hl, hm⟩ := z_b2s hm
            have JX2 : z_n o5_2 → z_r o_r_s_2 → z_J X 0 0 ([(r_o, z_o 6 [.ref r_Atext, z_i r_typed, .ref r_Atold, .ref r_Adraft, .ref r_Abegun, .ref r_As, .ref r_Apast, z_i r_known, .ref r_Aimages, z_i r_kept, .ref r_Arings, z_i r_rung, z_i r_at, .ref r_Astates, .ref r_Aheld, .ref r_Ahere, .ref r_Athere]), (r_Atext, z_a G.2.1 200 r_text), (r_Atold, z_a G.2.1 39 r_told), (r_Adraft, z_a G.2.1 39 r_draft), (r_Abegun, z_a G.2.1 73 r_begun), (r_As, z_a G.2.1 73 o_r_s_2), (r_Apast, z_a G.2.1 584 r_past), (r_Aimages, z_a G.2.1 146 r_images), (r_Arings, z_a G.2.1 6 r_rings), (r_Astates, z_a G.2.1 36 r_states), (r_Aheld, z_a G.2.1 73 r_held_13), (r_Ahere, z_a G.2.2.2.2 36 r_here), (r_Athere, z_a G.2.2.2.2 36 r_there)]) [(4, z_i x4), (5, z_i o5_2), (6, z_i o6_1)] 176 [] := by
              intro h_o5_2 h_o_r_s_2
              clear hl
              refine z_iload C dX6_sun_176 1 rfl ?_
              refine z_iload C dX6_sun_178 2 rfl ?_
              obtain ⟨r41, k42, hm⟩ := z_b1s hm
              refine z_callSi C (k_X6_common l G N o5_2 o6_1 h_o5_2 h_o6_1 r41 k42) zs_X6_common zl_X6_156 dX6_sun_180 [] rfl rfl rfl (ws' := [(r_o, z_o 6 [.ref r_Atext, z_i r_typed, .ref r_Atold, .ref r_Adraft, .ref r_Abegun, .ref r_As, .ref r_Apast, z_i r_known, .ref r_Aimages, z_i r_kept, .ref r_Arings, z_i r_rung, z_i r_at, .ref r_Astates, .ref r_Aheld, .ref r_Ahere, .ref r_Athere]), (r_Atext, z_a G.2.1 200 r_text), (r_Atold, z_a G.2.1 39 r_told), (r_Adraft, z_a G.2.1 39 r_draft), (r_Abegun, z_a G.2.1 73 r_begun), (r_As, z_a G.2.1 73 o_r_s_2), (r_Apast, z_a G.2.1 584 r_past), (r_Aimages, z_a G.2.1 146 r_images), (r_Arings, z_a G.2.1 6 r_rings), (r_Astates, z_a G.2.1 36 r_states), (r_Aheld, z_a G.2.1 73 r_held_13), (r_Ahere, z_a G.2.2.2.2 36 r_here), (r_Athere, z_a G.2.2.2.2 36 r_there)]) rfl rfl [] rfl (Nat.le_of_ble_eq_true rfl) ⟨Nat.le_of_ble_eq_true rfl, Nat.le_of_ble_eq_true rfl⟩ ⟨rfl, rfl⟩ ⟨Nat.zero_le _, Nat.zero_le _⟩ (fun hF => ?_)
              obtain ⟨h_r41, -⟩ := hF
              refine z_istore C dX6_sun_183 (by decide) (L' := [(7, z_i r41), (4, z_i x4), (5, z_i o5_2), (6, z_i o6_1)]) rfl ?_
              refine z_iload C dX6_sun_185 1 rfl ?_
              refine z_if_ne (tgt := 198) C h_x4 dX6_sun_187 (by decide) (fun c43 => ?_) (fun c43 => ?_)
              · have hm := z_pos c43 hm
                refine z_iload C dX6_sun_198 3 rfl ?_
                refine z_iload C dX6_sun_200 0 rfl ?_
                obtain ⟨c44, hm⟩ := z_chk_some hm
                obtain ⟨c45, hm⟩ := z_chk_some hm
                refine z_idiv C h_o6_1 h_r41 c44 dX6_sun_202 ?_
                cases hm
                exact z_iret C E dX6_sun_203 ⟨rfl, rfl, c45, h_o_r_s_2, h_r_held_13, trivial⟩
              · have hm := z_neg c43 hm
                refine z_iload C dX6_sun_190 2 rfl ?_
                refine z_iload C dX6_sun_192 0 rfl ?_
                obtain ⟨c46, hm⟩ := z_chk_some hm
                obtain ⟨c47, hm⟩ := z_chk_some hm
                refine z_idiv C h_o5_2 h_r41 c46 dX6_sun_194 ?_
                refine z_goto (tgt := 203) C dX6_sun_195 (by decide) ?_
                cases hm
                exact z_iret C E dX6_sun_203 ⟨rfl, rfl, c47, h_o_r_s_2, h_r_held_13, trivial⟩
            clear hm
            have L2 : ∀ (n2 : Nat) (v5_2 : Int) (v7_2 : Int) (r_s_2 : (Int → Int)), z_n v5_2 → z_n v7_2 → z_r r_s_2 → m_X6_sun_l2 N x2 x3 r_told x1 r_held_13 n2 v5_2 v7_2 r_s_2 = some (o5_2, o_r_s_2) → z_J X 0 0 ([(r_o, z_o 6 [.ref r_Atext, z_i r_typed, .ref r_Atold, .ref r_Adraft, .ref r_Abegun, .ref r_As, .ref r_Apast, z_i r_known, .ref r_Aimages, z_i r_kept, .ref r_Arings, z_i r_rung, z_i r_at, .ref r_Astates, .ref r_Aheld, .ref r_Ahere, .ref r_Athere]), (r_Atext, z_a G.2.1 200 r_text), (r_Atold, z_a G.2.1 39 r_told), (r_Adraft, z_a G.2.1 39 r_draft), (r_Abegun, z_a G.2.1 73 r_begun), (r_As, z_a G.2.1 73 r_s_2), (r_Apast, z_a G.2.1 584 r_past), (r_Aimages, z_a G.2.1 146 r_images), (r_Arings, z_a G.2.1 6 r_rings), (r_Astates, z_a G.2.1 36 r_states), (r_Aheld, z_a G.2.1 73 r_held_13), (r_Ahere, z_a G.2.2.2.2 36 r_here), (r_Athere, z_a G.2.2.2.2 36 r_there)]) [(0, .ref r_o), (1, z_i x1), (2, z_i x2), (3, z_i x3), (4, z_i x4), (5, z_i v5_2), (6, z_i o6_1), (7, z_i v7_2)] 75 [] := by
              clear hl
              intro n2
              induction n2 with
              | zero =>
                intro v5_2 v7_2 r_s_2 h_v5_2 h_v7_2 h_r_s_2 hm
                rw [m_X6_sun_l2] at hm
                cases hm
              | succ n2 ih2 =>
                intro v5_2 v7_2 r_s_2 h_v5_2 h_v7_2 h_r_s_2 hm
                rw [m_X6_sun_l2] at hm
                refine z_iload C dX6_sun_75 7 rfl ?_
                refine z_iconst C dX6_sun_77 ?_
                refine z_iload_n C dX6_sun_78 2 rfl ?_
                refine z_ishl C dX6_sun_79 ?_
                refine z_icmp_ge (tgt := 176) C h_v7_2 (z_n_shl _ _) dX6_sun_80 (by decide) (fun c18 => ?_) (fun c18 => ?_)
                · have hm := z_pos c18 hm
                  refine z_sub (L' := [(4, z_i x4), (5, z_i v5_2), (6, z_i o6_1)]) [4, 5, 6] rfl ?_
                  cases hm
                  exact JX2 h_v5_2 h_r_s_2
                · have hm := z_neg c18 hm
                  refine z_iconst C dX6_sun_83 ?_
                  refine z_istore C dX6_sun_84 (by decide) (L' := [(8, z_i 1), (0, .ref r_o), (1, z_i x1), (2, z_i x2), (3, z_i x3), (4, z_i x4), (5, z_i v5_2), (6, z_i o6_1), (7, z_i v7_2)]) rfl ?_
                  refine z_iconst C dX6_sun_86 ?_
                  refine z_istore C dX6_sun_87 (by decide) (L' := [(9, z_i 0), (8, z_i 1), (0, .ref r_o), (1, z_i x1), (2, z_i x2), (3, z_i x3), (4, z_i x4), (5, z_i v5_2), (6, z_i o6_1), (7, z_i v7_2)]) rfl ?_
                  obtain ⟨o8_3, o_r_s_3, hl, hm⟩ := z_b2s hm
                  have JX3 : z_n o8_3 → z_r o_r_s_3 → z_J X 0 0 ([(r_o, z_o 6 [.ref r_Atext, z_i r_typed, .ref r_Atold, .ref r_Adraft, .ref r_Abegun, .ref r_As, .ref r_Apast, z_i r_known, .ref r_Aimages, z_i r_kept, .ref r_Arings, z_i r_rung, z_i r_at, .ref r_Astates, .ref r_Aheld, .ref r_Ahere, .ref r_Athere]), (r_Atext, z_a G.2.1 200 r_text), (r_Atold, z_a G.2.1 39 r_told), (r_Adraft, z_a G.2.1 39 r_draft), (r_Abegun, z_a G.2.1 73 r_begun), (r_As, z_a G.2.1 73 o_r_s_3), (r_Apast, z_a G.2.1 584 r_past), (r_Aimages, z_a G.2.1 146 r_images), (r_Arings, z_a G.2.1 6 r_rings), (r_Astates, z_a G.2.1 36 r_states), (r_Aheld, z_a G.2.1 73 r_held_13), (r_Ahere, z_a G.2.2.2.2 36 r_here), (r_Athere, z_a G.2.2.2.2 36 r_there)]) [(0, .ref r_o), (1, z_i x1), (2, z_i x2), (3, z_i x3), (4, z_i x4), (5, z_i v5_2), (6, z_i o6_1), (7, z_i v7_2), (8, z_i o8_3)] 146 [] := by
                    intro h_o8_3 h_o_r_s_3
                    clear hl
                    refine z_iload C dX6_sun_146 5 rfl ?_
                    refine z_aload_n C dX6_sun_148 0 rfl ?_
                    refine z_get C zf_X6_22 dX6_sun_149 0 rfl rfl ?_
                    refine z_iload_n C dX6_sun_152 1 rfl ?_
                    obtain ⟨c33, hm⟩ := z_chk_some hm
                    refine z_iald C dX6_sun_153 5 rfl c33 h_x1 ?_
                    obtain ⟨s35, hj, hm⟩ := z_b1s hm
                    have J36 : z_n s35 → z_J X 0 0 ([(r_o, z_o 6 [.ref r_Atext, z_i r_typed, .ref r_Atold, .ref r_Adraft, .ref r_Abegun, .ref r_As, .ref r_Apast, z_i r_known, .ref r_Aimages, z_i r_kept, .ref r_Arings, z_i r_rung, z_i r_at, .ref r_Astates, .ref r_Aheld, .ref r_Ahere, .ref r_Athere]), (r_Atext, z_a G.2.1 200 r_text), (r_Atold, z_a G.2.1 39 r_told), (r_Adraft, z_a G.2.1 39 r_draft), (r_Abegun, z_a G.2.1 73 r_begun), (r_As, z_a G.2.1 73 o_r_s_3), (r_Apast, z_a G.2.1 584 r_past), (r_Aimages, z_a G.2.1 146 r_images), (r_Arings, z_a G.2.1 6 r_rings), (r_Astates, z_a G.2.1 36 r_states), (r_Aheld, z_a G.2.1 73 r_held_13), (r_Ahere, z_a G.2.2.2.2 36 r_here), (r_Athere, z_a G.2.2.2.2 36 r_there)]) [(0, .ref r_o), (1, z_i x1), (2, z_i x2), (3, z_i x3), (4, z_i x4), (6, z_i o6_1), (7, z_i v7_2)] 163 [z_i s35, z_i v5_2] := by
                      intro h_s35
                      clear hj
                      obtain ⟨c37, hm⟩ := z_chk_some hm
                      refine z_iadd C dX6_sun_163 ?_
                      refine z_istore C dX6_sun_164 (by decide) (L' := [(5, z_i (v5_2 + s35)), (0, .ref r_o), (1, z_i x1), (2, z_i x2), (3, z_i x3), (4, z_i x4), (6, z_i o6_1), (7, z_i v7_2)]) rfl ?_
                      refine z_aload_n C dX6_sun_166 1 rfl ?_
                      obtain ⟨r_s_38, k39, hm⟩ := z_b1s hm
                      refine z_callVvd C (k_X6_lets l G N r_o r_Atext r_Atold r_Adraft r_Abegun r_As r_Apast r_Aimages r_Arings r_Astates r_Aheld r_Ahere r_Athere r_text r_typed r_told r_draft r_begun o_r_s_3 r_past r_known r_images r_kept r_rings r_rung r_at r_states r_held_13 r_here r_there h_r_text h_r_typed h_r_told h_r_draft h_r_begun h_o_r_s_3 h_r_past h_r_known h_r_images h_r_kept h_r_rings h_r_rung h_r_at h_r_states h_r_held_13 h_r_here h_r_there r_s_38 k39) zv_X6_lets zl_X6_140 dX6_sun_167 rfl 0 rfl rfl rfl [] rfl (Nat.le_of_ble_eq_true rfl) ⟨Nat.le_of_ble_eq_true rfl, Nat.le_of_ble_eq_true rfl⟩ ⟨rfl, rfl⟩ ⟨Nat.zero_le _, Nat.zero_le _⟩ (fun hF => ?_)
                      obtain ⟨h_r_s_38, -⟩ := hF
                      obtain ⟨c40, hm⟩ := z_chk_some hm
                      refine z_iinc C dX6_sun_170 7 rfl (by decide) (L' := [(7, z_i (v7_2 + 1)), (5, z_i (v5_2 + s35)), (0, .ref r_o), (1, z_i x1), (2, z_i x2), (3, z_i x3), (4, z_i x4), (6, z_i o6_1)]) rfl ?_
                      refine z_goto (tgt := 75) C dX6_sun_173 (by decide) ?_
                      refine z_sub (L' := [(0, .ref r_o), (1, z_i x1), (2, z_i x2), (3, z_i x3), (4, z_i x4), (5, z_i (v5_2 + s35)), (6, z_i o6_1), (7, z_i (v7_2 + 1))]) [2, 3, 4, 5, 6, 1, 7, 0] rfl ?_
                      exact ih2 (v5_2 + s35) (v7_2 + 1) r_s_38 c37 c40 h_r_s_38 hm
                    replace hm := hj
                    clear hj
                    refine z_if_le (tgt := 162) C (h_o_r_s_3 _) dX6_sun_154 (by decide) (fun c34 => ?_) (fun c34 => ?_)
                    · have hm := z_pos c34 hm
                      refine z_iconst C dX6_sun_162 ?_
                      refine z_sub (L' := [(0, .ref r_o), (1, z_i x1), (2, z_i x2), (3, z_i x3), (4, z_i x4), (6, z_i o6_1), (7, z_i v7_2)]) [0, 1, 2, 3, 4, 6, 7] rfl ?_
                      cases hm
                      exact J36 (z_k 0 rfl)
                    · have hm := z_neg c34 hm
                      refine z_iload C dX6_sun_157 8 rfl ?_
                      refine z_goto (tgt := 163) C dX6_sun_159 (by decide) ?_
                      refine z_sub (L' := [(0, .ref r_o), (1, z_i x1), (2, z_i x2), (3, z_i x3), (4, z_i x4), (6, z_i o6_1), (7, z_i v7_2)]) [0, 1, 2, 3, 4, 6, 7] rfl ?_
                      cases hm
                      exact J36 h_o8_3
                  clear hm
                  have L3 : ∀ (n3 : Nat) (v8_3 : Int) (v9_3 : Int) (r_s_3 : (Int → Int)), z_n v8_3 → z_n v9_3 → z_r r_s_3 → m_X6_sun_l3 N x2 v7_2 x3 r_told n3 v8_3 v9_3 r_s_3 = some (o8_3, o_r_s_3) → z_J X 0 0 ([(r_o, z_o 6 [.ref r_Atext, z_i r_typed, .ref r_Atold, .ref r_Adraft, .ref r_Abegun, .ref r_As, .ref r_Apast, z_i r_known, .ref r_Aimages, z_i r_kept, .ref r_Arings, z_i r_rung, z_i r_at, .ref r_Astates, .ref r_Aheld, .ref r_Ahere, .ref r_Athere]), (r_Atext, z_a G.2.1 200 r_text), (r_Atold, z_a G.2.1 39 r_told), (r_Adraft, z_a G.2.1 39 r_draft), (r_Abegun, z_a G.2.1 73 r_begun), (r_As, z_a G.2.1 73 r_s_3), (r_Apast, z_a G.2.1 584 r_past), (r_Aimages, z_a G.2.1 146 r_images), (r_Arings, z_a G.2.1 6 r_rings), (r_Astates, z_a G.2.1 36 r_states), (r_Aheld, z_a G.2.1 73 r_held_13), (r_Ahere, z_a G.2.2.2.2 36 r_here), (r_Athere, z_a G.2.2.2.2 36 r_there)]) [(0, .ref r_o), (1, z_i x1), (2, z_i x2), (3, z_i x3), (4, z_i x4), (5, z_i v5_2), (6, z_i o6_1), (7, z_i v7_2), (8, z_i v8_3), (9, z_i v9_3)] 89 [] := by
                    clear hl
                    intro n3
                    induction n3 with
                    | zero =>
                      intro v8_3 v9_3 r_s_3 h_v8_3 h_v9_3 h_r_s_3 hm
                      rw [m_X6_sun_l3] at hm
                      cases hm
                    | succ n3 ih3 =>
                      intro v8_3 v9_3 r_s_3 h_v8_3 h_v9_3 h_r_s_3 hm
                      rw [m_X6_sun_l3] at hm
                      refine z_iload C dX6_sun_89 9 rfl ?_
                      refine z_iload_n C dX6_sun_91 2 rfl ?_
                      refine z_icmp_ge (tgt := 146) C h_v9_3 h_x2 dX6_sun_92 (by decide) (fun c19 => ?_) (fun c19 => ?_)
                      · have hm := z_pos c19 hm
                        refine z_sub (L' := [(0, .ref r_o), (1, z_i x1), (2, z_i x2), (3, z_i x3), (4, z_i x4), (5, z_i v5_2), (6, z_i o6_1), (7, z_i v7_2), (8, z_i v8_3)]) [0, 1, 2, 3, 4, 5, 6, 7, 8] rfl ?_
                        cases hm
                        exact JX3 h_v8_3 h_r_s_3
                      · have hm := z_neg c19 hm
                        refine z_iload C dX6_sun_95 7 rfl ?_
                        refine z_iload C dX6_sun_97 9 rfl ?_
                        refine z_ishr C dX6_sun_99 ?_
                        refine z_iconst C dX6_sun_100 ?_
                        refine z_iand C dX6_sun_101 ?_
                        refine z_iconst C dX6_sun_102 ?_
                        obtain ⟨s21, hj, hm⟩ := z_b1s hm
                        have J22 : z_n s21 → (s21 = 0 ∨ s21 = 1) → z_J X 0 0 ([(r_o, z_o 6 [.ref r_Atext, z_i r_typed, .ref r_Atold, .ref r_Adraft, .ref r_Abegun, .ref r_As, .ref r_Apast, z_i r_known, .ref r_Aimages, z_i r_kept, .ref r_Arings, z_i r_rung, z_i r_at, .ref r_Astates, .ref r_Aheld, .ref r_Ahere, .ref r_Athere]), (r_Atext, z_a G.2.1 200 r_text), (r_Atold, z_a G.2.1 39 r_told), (r_Adraft, z_a G.2.1 39 r_draft), (r_Abegun, z_a G.2.1 73 r_begun), (r_As, z_a G.2.1 73 r_s_3), (r_Apast, z_a G.2.1 584 r_past), (r_Aimages, z_a G.2.1 146 r_images), (r_Arings, z_a G.2.1 6 r_rings), (r_Astates, z_a G.2.1 36 r_states), (r_Aheld, z_a G.2.1 73 r_held_13), (r_Ahere, z_a G.2.2.2.2 36 r_here), (r_Athere, z_a G.2.2.2.2 36 r_there)]) [(0, .ref r_o), (1, z_i x1), (2, z_i x2), (3, z_i x3), (4, z_i x4), (5, z_i v5_2), (6, z_i o6_1), (7, z_i v7_2), (8, z_i v8_3), (9, z_i v9_3)] 111 [z_i s21] := by
                          intro h_s21 hb_s21
                          clear hj
                          refine z_istore C dX6_sun_111 (by decide) (L' := [(10, z_i s21), (0, .ref r_o), (1, z_i x1), (2, z_i x2), (3, z_i x3), (4, z_i x4), (5, z_i v5_2), (6, z_i o6_1), (7, z_i v7_2), (8, z_i v8_3), (9, z_i v9_3)]) rfl ?_
                          refine z_iload C dX6_sun_113 9 rfl ?_
                          refine z_iload C dX6_sun_115 0 rfl ?_
                          obtain ⟨s25, hj, hm⟩ := z_b1s hm
                          have J26 : z_n s25 → z_J X 0 0 ([(r_o, z_o 6 [.ref r_Atext, z_i r_typed, .ref r_Atold, .ref r_Adraft, .ref r_Abegun, .ref r_As, .ref r_Apast, z_i r_known, .ref r_Aimages, z_i r_kept, .ref r_Arings, z_i r_rung, z_i r_at, .ref r_Astates, .ref r_Aheld, .ref r_Ahere, .ref r_Athere]), (r_Atext, z_a G.2.1 200 r_text), (r_Atold, z_a G.2.1 39 r_told), (r_Adraft, z_a G.2.1 39 r_draft), (r_Abegun, z_a G.2.1 73 r_begun), (r_As, z_a G.2.1 73 r_s_3), (r_Apast, z_a G.2.1 584 r_past), (r_Aimages, z_a G.2.1 146 r_images), (r_Arings, z_a G.2.1 6 r_rings), (r_Astates, z_a G.2.1 36 r_states), (r_Aheld, z_a G.2.1 73 r_held_13), (r_Ahere, z_a G.2.2.2.2 36 r_here), (r_Athere, z_a G.2.2.2.2 36 r_there)]) [(0, .ref r_o), (1, z_i x1), (2, z_i x2), (3, z_i x3), (4, z_i x4), (5, z_i v5_2), (6, z_i o6_1), (7, z_i v7_2), (9, z_i v9_3), (10, z_i s21)] 128 [z_i s25, z_i v8_3] := by
                            intro h_s25
                            clear hj
                            obtain ⟨c27, hm⟩ := z_chk_some hm
                            refine z_imul C dX6_sun_128 ?_
                            refine z_istore C dX6_sun_129 (by decide) (L' := [(8, z_i (v8_3 * s25)), (0, .ref r_o), (1, z_i x1), (2, z_i x2), (3, z_i x3), (4, z_i x4), (5, z_i v5_2), (6, z_i o6_1), (7, z_i v7_2), (9, z_i v9_3), (10, z_i s21)]) rfl ?_
                            refine z_iload C dX6_sun_131 10 rfl ?_
                            refine z_if_eq (tgt := 140) C h_s21 dX6_sun_133 (by decide) (fun c28 => ?_) (fun c28 => ?_)
                            · have hm := z_pos c28 hm
                              obtain ⟨c29, hm⟩ := z_chk_some hm
                              refine z_iinc C dX6_sun_140 9 rfl (by decide) (L' := [(9, z_i (v9_3 + 1)), (8, z_i (v8_3 * s25)), (0, .ref r_o), (1, z_i x1), (2, z_i x2), (3, z_i x3), (4, z_i x4), (5, z_i v5_2), (6, z_i o6_1), (7, z_i v7_2), (10, z_i s21)]) rfl ?_
                              refine z_goto (tgt := 89) C dX6_sun_143 (by decide) ?_
                              refine z_sub (L' := [(0, .ref r_o), (1, z_i x1), (2, z_i x2), (3, z_i x3), (4, z_i x4), (5, z_i v5_2), (6, z_i o6_1), (7, z_i v7_2), (8, z_i (v8_3 * s25)), (9, z_i (v9_3 + 1))]) [2, 3, 4, 5, 6, 7, 8, 9, 1, 0] rfl ?_
                              exact ih3 (v8_3 * s25) (v9_3 + 1) r_s_3 c27 c29 h_r_s_3 hm
                            · have hm := z_neg c28 hm
                              refine z_aload_n C dX6_sun_136 1 rfl ?_
                              obtain ⟨r_s_30, k31, hm⟩ := z_b1s hm
                              refine z_callVvd C (k_X6_shines l G N r_o r_Atext r_Atold r_Adraft r_Abegun r_As r_Apast r_Aimages r_Arings r_Astates r_Aheld r_Ahere r_Athere r_text r_typed r_told r_draft r_begun r_s_3 r_past r_known r_images r_kept r_rings r_rung r_at r_states r_held_13 r_here r_there h_r_text h_r_typed h_r_told h_r_draft h_r_begun h_r_s_3 h_r_past h_r_known h_r_images h_r_kept h_r_rings h_r_rung h_r_at h_r_states h_r_held_13 h_r_here h_r_there r_s_30 k31) zv_X6_shines zl_X6_134 dX6_sun_137 rfl 0 rfl rfl rfl [] rfl (Nat.le_of_ble_eq_true rfl) ⟨Nat.le_of_ble_eq_true rfl, Nat.le_of_ble_eq_true rfl⟩ ⟨rfl, rfl⟩ ⟨Nat.zero_le _, Nat.zero_le _⟩ (fun hF => ?_)
                              obtain ⟨h_r_s_30, -⟩ := hF
                              obtain ⟨c32, hm⟩ := z_chk_some hm
                              refine z_iinc C dX6_sun_140 9 rfl (by decide) (L' := [(9, z_i (v9_3 + 1)), (8, z_i (v8_3 * s25)), (0, .ref r_o), (1, z_i x1), (2, z_i x2), (3, z_i x3), (4, z_i x4), (5, z_i v5_2), (6, z_i o6_1), (7, z_i v7_2), (10, z_i s21)]) rfl ?_
                              refine z_goto (tgt := 89) C dX6_sun_143 (by decide) ?_
                              refine z_sub (L' := [(0, .ref r_o), (1, z_i x1), (2, z_i x2), (3, z_i x3), (4, z_i x4), (5, z_i v5_2), (6, z_i o6_1), (7, z_i v7_2), (8, z_i (v8_3 * s25)), (9, z_i (v9_3 + 1))]) [2, 3, 4, 5, 6, 7, 8, 9, 1, 0] rfl ?_
                              exact ih3 (v8_3 * s25) (v9_3 + 1) r_s_30 c27 c32 h_r_s_30 hm
                          replace hm := hj
                          clear hj
                          refine z_if_eq (tgt := 124) C h_s21 dX6_sun_117 (by decide) (fun c23 => ?_) (fun c23 => ?_)
                          · have hm := z_pos c23 hm
                            refine z_bipush C dX6_sun_124 (by decide) ?_
                            refine z_iload_n C dX6_sun_126 4 rfl ?_
                            obtain ⟨c24, hm⟩ := z_chk_some hm
                            refine z_isub C dX6_sun_127 ?_
                            refine z_sub (L' := [(0, .ref r_o), (1, z_i x1), (2, z_i x2), (3, z_i x3), (4, z_i x4), (5, z_i v5_2), (6, z_i o6_1), (7, z_i v7_2), (9, z_i v9_3), (10, z_i s21)]) [1, 2, 3, 4, 5, 6, 7, 8, 10, 0] rfl ?_
                            cases hm
                            exact J26 c24
                          · have hm := z_neg c23 hm
                            refine z_iload_n C dX6_sun_120 4 rfl ?_
                            refine z_goto (tgt := 128) C dX6_sun_121 (by decide) ?_
                            refine z_sub (L' := [(0, .ref r_o), (1, z_i x1), (2, z_i x2), (3, z_i x3), (4, z_i x4), (5, z_i v5_2), (6, z_i o6_1), (7, z_i v7_2), (9, z_i v9_3), (10, z_i s21)]) [1, 2, 3, 4, 5, 6, 7, 8, 10, 0] rfl ?_
                            cases hm
                            exact J26 h_x3
                        replace hm := hj
                        clear hj
                        refine z_icmp_ne (tgt := 110) C (z_n_and _ _) (z_k 1 rfl) dX6_sun_103 (by decide) (fun c20 => ?_) (fun c20 => ?_)
                        · have hm := z_pos c20 hm
                          refine z_iconst C dX6_sun_110 ?_
                          cases hm
                          exact J22 (z_k 0 rfl) (Or.inl rfl)
                        · have hm := z_neg c20 hm
                          refine z_iconst C dX6_sun_106 ?_
                          refine z_goto (tgt := 111) C dX6_sun_107 (by decide) ?_
                          cases hm
                          exact J22 (z_k 1 rfl) (Or.inr rfl)
                  refine z_sub (L' := [(0, .ref r_o), (1, z_i x1), (2, z_i x2), (3, z_i x3), (4, z_i x4), (5, z_i v5_2), (6, z_i o6_1), (7, z_i v7_2), (8, z_i 1), (9, z_i 0)]) [2, 3, 4, 5, 6, 7, 8, 9, 1, 0] rfl ?_
                  exact L3 N 1 0 r_s_2 (z_k 1 rfl) (z_k 0 rfl) h_r_s_2 hl
            refine z_sub (L' := [(0, .ref r_o), (1, z_i x1), (2, z_i x2), (3, z_i x3), (4, z_i x4), (5, z_i 0), (6, z_i o6_1), (7, z_i 0)]) [1, 2, 3, 4, 5, 6, 7, 0] rfl ?_
            exact L2 N 0 0 r_s (z_k 0 rfl) (z_k 0 rfl) h_r_s hl
          clear hm
          have L1 : ∀ (n1 : Nat) (v6_1 : Int) (v7_1 : Int), z_n v6_1 → z_n v7_1 → m_X6_sun_l1 N x2 n1 v6_1 v7_1 = some (o6_1) → z_J X 0 0 ([(r_o, z_o 6 [.ref r_Atext, z_i r_typed, .ref r_Atold, .ref r_Adraft, .ref r_Abegun, .ref r_As, .ref r_Apast, z_i r_known, .ref r_Aimages, z_i r_kept, .ref r_Arings, z_i r_rung, z_i r_at, .ref r_Astates, .ref r_Aheld, .ref r_Ahere, .ref r_Athere]), (r_Atext, z_a G.2.1 200 r_text), (r_Atold, z_a G.2.1 39 r_told), (r_Adraft, z_a G.2.1 39 r_draft), (r_Abegun, z_a G.2.1 73 r_begun), (r_As, z_a G.2.1 73 r_s), (r_Apast, z_a G.2.1 584 r_past), (r_Aimages, z_a G.2.1 146 r_images), (r_Arings, z_a G.2.1 6 r_rings), (r_Astates, z_a G.2.1 36 r_states), (r_Aheld, z_a G.2.1 73 r_held_13), (r_Ahere, z_a G.2.2.2.2 36 r_here), (r_Athere, z_a G.2.2.2.2 36 r_there)]) [(0, .ref r_o), (1, z_i x1), (2, z_i x2), (3, z_i x3), (4, z_i x4), (5, z_i 0), (6, z_i v6_1), (7, z_i v7_1)] 53 [] := by
            clear hl
            intro n1
            induction n1 with
            | zero =>
              intro v6_1 v7_1 h_v6_1 h_v7_1 hm
              rw [m_X6_sun_l1] at hm
              cases hm
            | succ n1 ih1 =>
              intro v6_1 v7_1 h_v6_1 h_v7_1 hm
              rw [m_X6_sun_l1] at hm
              refine z_iload C dX6_sun_53 7 rfl ?_
              refine z_iload_n C dX6_sun_55 2 rfl ?_
              refine z_icmp_ge (tgt := 72) C h_v7_1 h_x2 dX6_sun_56 (by decide) (fun c15 => ?_) (fun c15 => ?_)
              · have hm := z_pos c15 hm
                refine z_sub (L' := [(0, .ref r_o), (1, z_i x1), (2, z_i x2), (3, z_i x3), (4, z_i x4), (5, z_i 0), (6, z_i v6_1)]) [0, 1, 2, 3, 4, 5, 6] rfl ?_
                cases hm
                exact JX1 h_v6_1
              · have hm := z_neg c15 hm
                refine z_iload C dX6_sun_59 6 rfl ?_
                refine z_bipush C dX6_sun_61 (by decide) ?_
                obtain ⟨c16, hm⟩ := z_chk_some hm
                refine z_imul C dX6_sun_63 ?_
                refine z_istore C dX6_sun_64 (by decide) (L' := [(6, z_i (v6_1 * 10)), (0, .ref r_o), (1, z_i x1), (2, z_i x2), (3, z_i x3), (4, z_i x4), (5, z_i 0), (7, z_i v7_1)]) rfl ?_
                obtain ⟨c17, hm⟩ := z_chk_some hm
                refine z_iinc C dX6_sun_66 7 rfl (by decide) (L' := [(7, z_i (v7_1 + 1)), (6, z_i (v6_1 * 10)), (0, .ref r_o), (1, z_i x1), (2, z_i x2), (3, z_i x3), (4, z_i x4), (5, z_i 0)]) rfl ?_
                refine z_goto (tgt := 53) C dX6_sun_69 (by decide) ?_
                refine z_sub (L' := [(0, .ref r_o), (1, z_i x1), (2, z_i x2), (3, z_i x3), (4, z_i x4), (5, z_i 0), (6, z_i (v6_1 * 10)), (7, z_i (v7_1 + 1))]) [2, 3, 4, 5, 6, 7, 1, 0] rfl ?_
                exact ih1 (v6_1 * 10) (v7_1 + 1) c16 c17 hm
          refine z_sub (L' := [(0, .ref r_o), (1, z_i x1), (2, z_i x2), (3, z_i x3), (4, z_i x4), (5, z_i 0), (6, z_i 1), (7, z_i 0)]) [3, 4, 5, 6, 7, 2, 1, 0] rfl ?_
          exact L1 N 1 0 (z_k 1 rfl) (z_k 0 rfl) hl
        · have hm := z_neg c12 hm
          refine z_iconst C dX6_sun_38 ?_
          cases hm
          exact z_iret C E dX6_sun_39 ⟨rfl, rfl, (z_k (-1) rfl), h_r_s, h_r_held, trivial⟩
set_option maxRecDepth 100000 in
theorem k_X6_manyStates (l : Launch) (G : z_G) (N : Nat) (r_o r_Atext r_Atold r_Adraft r_Abegun r_As r_Apast r_Aimages r_Arings r_Astates r_Aheld r_Ahere r_Athere : Nat) (r_text : (Int → Int)) (r_typed : Int) (r_told : (Int → Int)) (r_draft : (Int → Int)) (r_begun : (Int → Int)) (r_s : (Int → Int)) (r_past : (Int → Int)) (r_known : Int) (r_images : (Int → Int)) (r_kept : Int) (r_rings : (Int → Int)) (r_rung : Int) (r_at : Int) (r_states : (Int → Int)) (r_held : (Int → Int)) (r_here : (Int → Int)) (r_there : (Int → Int)) (h_r_text : z_r r_text) (h_r_typed : z_n r_typed) (h_r_told : z_r r_told) (h_r_draft : z_r r_draft) (h_r_begun : z_r r_begun) (h_r_s : z_r r_s) (h_r_past : z_r r_past) (h_r_known : z_n r_known) (h_r_images : z_r r_images) (h_r_kept : z_n r_kept) (h_r_rings : z_r r_rings) (h_r_rung : z_n r_rung) (h_r_at : z_n r_at) (h_r_states : z_r r_states) (h_r_held : z_r r_held) (h_r_here : z_r r_here) (h_r_there : z_r r_there) (rr : Int) (q_r_states : (Int → Int)) (hm : m_X6_manyStates N r_told r_s r_states = some (rr, q_r_states)) : z_M l G yX6_manyStates cX6_manyStates 3 (some .int) (k2_rm 4 92) [.ref r_o] ([(r_o, z_o 6 [.ref r_Atext, z_i r_typed, .ref r_Atold, .ref r_Adraft, .ref r_Abegun, .ref r_As, .ref r_Apast, z_i r_known, .ref r_Aimages, z_i r_kept, .ref r_Arings, z_i r_rung, z_i r_at, .ref r_Astates, .ref r_Aheld, .ref r_Ahere, .ref r_Athere]), (r_Atext, z_a G.2.1 200 r_text), (r_Atold, z_a G.2.1 39 r_told), (r_Adraft, z_a G.2.1 39 r_draft), (r_Abegun, z_a G.2.1 73 r_begun), (r_As, z_a G.2.1 73 r_s), (r_Apast, z_a G.2.1 584 r_past), (r_Aimages, z_a G.2.1 146 r_images), (r_Arings, z_a G.2.1 6 r_rings), (r_Astates, z_a G.2.1 36 r_states), (r_Aheld, z_a G.2.1 73 r_held), (r_Ahere, z_a G.2.2.2.2 36 r_here), (r_Athere, z_a G.2.2.2.2 36 r_there)]) 0 0 (fun v w => v = some (z_i rr) ∧ w = [(r_o, z_o 6 [.ref r_Atext, z_i r_typed, .ref r_Atold, .ref r_Adraft, .ref r_Abegun, .ref r_As, .ref r_Apast, z_i r_known, .ref r_Aimages, z_i r_kept, .ref r_Arings, z_i r_rung, z_i r_at, .ref r_Astates, .ref r_Aheld, .ref r_Ahere, .ref r_Athere]), (r_Atext, z_a G.2.1 200 r_text), (r_Atold, z_a G.2.1 39 r_told), (r_Adraft, z_a G.2.1 39 r_draft), (r_Abegun, z_a G.2.1 73 r_begun), (r_As, z_a G.2.1 73 r_s), (r_Apast, z_a G.2.1 584 r_past), (r_Aimages, z_a G.2.1 146 r_images), (r_Arings, z_a G.2.1 6 r_rings), (r_Astates, z_a G.2.1 36 q_r_states), (r_Aheld, z_a G.2.1 73 r_held), (r_Ahere, z_a G.2.2.2.2 36 r_here), (r_Athere, z_a G.2.2.2.2 36 r_there)] ∧ z_n rr ∧ z_r q_r_states ∧ True) := by
  unfold m_X6_manyStates at hm
  refine z_M.intro (by decide +kernel) (Nat.le_of_ble_eq_true rfl) (L := [(0, .ref r_o)]) rfl (fun X C E => ?_)
  refine z_aload_n C dX6_manyStates_0 0 rfl ?_
  obtain ⟨r_states_1, k2, hm⟩ := z_b1s hm
  refine z_callVvd C (k_X6_laysStates l G N r_o r_Atext r_Atold r_Adraft r_Abegun r_As r_Apast r_Aimages r_Arings r_Astates r_Aheld r_Ahere r_Athere r_text r_typed r_told r_draft r_begun r_s r_past r_known r_images r_kept r_rings r_rung r_at r_states r_held r_here r_there h_r_text h_r_typed h_r_told h_r_draft h_r_begun h_r_s h_r_past h_r_known h_r_images h_r_kept h_r_rings h_r_rung h_r_at h_r_states h_r_held h_r_here h_r_there r_states_1 k2) zv_X6_laysStates zl_X6_118 dX6_manyStates_1 rfl 0 rfl rfl rfl [] rfl (Nat.le_of_ble_eq_true rfl) ⟨Nat.le_of_ble_eq_true rfl, Nat.le_of_ble_eq_true rfl⟩ ⟨rfl, rfl⟩ ⟨Nat.zero_le _, Nat.zero_le _⟩ (fun hF => ?_)
  obtain ⟨h_r_states_1, -⟩ := hF
  refine z_iconst C dX6_manyStates_4 ?_
  refine z_istore_n C dX6_manyStates_5 (by decide) (L' := [(1, z_i 0), (0, .ref r_o)]) rfl ?_
  refine z_iconst C dX6_manyStates_6 ?_
  refine z_istore_n C dX6_manyStates_7 (by decide) (L' := [(2, z_i 0), (1, z_i 0), (0, .ref r_o)]) rfl ?_
  obtain ⟨o1_1, hl, hm⟩ := z_b1s hm
  have JX1 : z_n o1_1 → z_J X 0 0 ([(r_o, z_o 6 [.ref r_Atext, z_i r_typed, .ref r_Atold, .ref r_Adraft, .ref r_Abegun, .ref r_As, .ref r_Apast, z_i r_known, .ref r_Aimages, z_i r_kept, .ref r_Arings, z_i r_rung, z_i r_at, .ref r_Astates, .ref r_Aheld, .ref r_Ahere, .ref r_Athere]), (r_Atext, z_a G.2.1 200 r_text), (r_Atold, z_a G.2.1 39 r_told), (r_Adraft, z_a G.2.1 39 r_draft), (r_Abegun, z_a G.2.1 73 r_begun), (r_As, z_a G.2.1 73 r_s), (r_Apast, z_a G.2.1 584 r_past), (r_Aimages, z_a G.2.1 146 r_images), (r_Arings, z_a G.2.1 6 r_rings), (r_Astates, z_a G.2.1 36 r_states_1), (r_Aheld, z_a G.2.1 73 r_held), (r_Ahere, z_a G.2.2.2.2 36 r_here), (r_Athere, z_a G.2.2.2.2 36 r_there)]) [(1, z_i o1_1)] 40 [] := by
    intro h_o1_1
    clear hl
    refine z_iload_n C dX6_manyStates_40 0 rfl ?_
    cases hm
    exact z_iret C E dX6_manyStates_41 ⟨rfl, rfl, h_o1_1, h_r_states_1, trivial⟩
  clear hm
  have L1 : ∀ (n1 : Nat) (v1_1 : Int) (v2_1 : Int), z_n v1_1 → z_n v2_1 → m_X6_manyStates_l1 N r_told r_states_1 n1 v1_1 v2_1 = some (o1_1) → z_J X 0 0 ([(r_o, z_o 6 [.ref r_Atext, z_i r_typed, .ref r_Atold, .ref r_Adraft, .ref r_Abegun, .ref r_As, .ref r_Apast, z_i r_known, .ref r_Aimages, z_i r_kept, .ref r_Arings, z_i r_rung, z_i r_at, .ref r_Astates, .ref r_Aheld, .ref r_Ahere, .ref r_Athere]), (r_Atext, z_a G.2.1 200 r_text), (r_Atold, z_a G.2.1 39 r_told), (r_Adraft, z_a G.2.1 39 r_draft), (r_Abegun, z_a G.2.1 73 r_begun), (r_As, z_a G.2.1 73 r_s), (r_Apast, z_a G.2.1 584 r_past), (r_Aimages, z_a G.2.1 146 r_images), (r_Arings, z_a G.2.1 6 r_rings), (r_Astates, z_a G.2.1 36 r_states_1), (r_Aheld, z_a G.2.1 73 r_held), (r_Ahere, z_a G.2.2.2.2 36 r_here), (r_Athere, z_a G.2.2.2.2 36 r_there)]) [(0, .ref r_o), (1, z_i v1_1), (2, z_i v2_1)] 8 [] := by
    clear hl
    intro n1
    induction n1 with
    | zero =>
      intro v1_1 v2_1 h_v1_1 h_v2_1 hm
      rw [m_X6_manyStates_l1] at hm
      cases hm
    | succ n1 ih1 =>
      intro v1_1 v2_1 h_v1_1 h_v2_1 hm
      rw [m_X6_manyStates_l1] at hm
      refine z_iload_n C dX6_manyStates_8 2 rfl ?_
      refine z_aload_n C dX6_manyStates_9 0 rfl ?_
      obtain ⟨r3, k4, hm⟩ := z_b1s hm
      refine z_callVid C (k_X6_cells l G N r_o r_Atext r_Atold r_Adraft r_Abegun r_As r_Apast r_Aimages r_Arings r_Astates r_Aheld r_Ahere r_Athere r_text r_typed r_told r_draft r_begun r_s r_past r_known r_images r_kept r_rings r_rung r_at r_states_1 r_held r_here r_there h_r_text h_r_typed h_r_told h_r_draft h_r_begun h_r_s h_r_past h_r_known h_r_images h_r_kept h_r_rings h_r_rung h_r_at h_r_states_1 h_r_held h_r_here h_r_there r3 k4) zv_X6_cells zl_X6_53 dX6_manyStates_10 rfl 0 rfl rfl rfl [z_i v2_1] rfl (Nat.le_of_ble_eq_true rfl) ⟨Nat.le_of_ble_eq_true rfl, Nat.le_of_ble_eq_true rfl⟩ ⟨rfl, rfl⟩ ⟨Nat.zero_le _, Nat.zero_le _⟩ (fun hF => ?_)
      obtain ⟨h_r3, -⟩ := hF
      refine z_icmp_ge (tgt := 40) C h_v2_1 h_r3 dX6_manyStates_13 (by decide) (fun c5 => ?_) (fun c5 => ?_)
      · have hm := z_pos c5 hm
        refine z_sub (L' := [(1, z_i v1_1)]) [1] rfl ?_
        cases hm
        exact JX1 h_v1_1
      · have hm := z_neg c5 hm
        refine z_iload_n C dX6_manyStates_16 1 rfl ?_
        refine z_aload_n C dX6_manyStates_17 0 rfl ?_
        refine z_get C zf_X6_34 dX6_manyStates_18 0 rfl rfl ?_
        refine z_iload_n C dX6_manyStates_21 2 rfl ?_
        obtain ⟨c6, hm⟩ := z_chk_some hm
        refine z_iald C dX6_manyStates_22 9 rfl c6 h_v2_1 ?_
        refine z_iload_n C dX6_manyStates_23 2 rfl ?_
        refine z_icmp_ne (tgt := 31) C (h_r_states_1 _) h_v2_1 dX6_manyStates_24 (by decide) (fun c7 => ?_) (fun c7 => ?_)
        · have hm := z_pos c7 hm
          refine z_iconst C dX6_manyStates_31 ?_
          obtain ⟨c8, hm⟩ := z_chk_some hm
          refine z_iadd C dX6_manyStates_32 ?_
          refine z_istore_n C dX6_manyStates_33 (by decide) (L' := [(1, z_i (v1_1 + 0)), (0, .ref r_o), (2, z_i v2_1)]) rfl ?_
          obtain ⟨c9, hm⟩ := z_chk_some hm
          refine z_iinc C dX6_manyStates_34 2 rfl (by decide) (L' := [(2, z_i (v2_1 + 1)), (1, z_i (v1_1 + 0)), (0, .ref r_o)]) rfl ?_
          refine z_goto (tgt := 8) C dX6_manyStates_37 (by decide) ?_
          refine z_sub (L' := [(0, .ref r_o), (1, z_i (v1_1 + 0)), (2, z_i (v2_1 + 1))]) [2, 1, 0] rfl ?_
          exact ih1 (v1_1 + 0) (v2_1 + 1) c8 c9 hm
        · have hm := z_neg c7 hm
          refine z_iconst C dX6_manyStates_27 ?_
          refine z_goto (tgt := 32) C dX6_manyStates_28 (by decide) ?_
          obtain ⟨c10, hm⟩ := z_chk_some hm
          refine z_iadd C dX6_manyStates_32 ?_
          refine z_istore_n C dX6_manyStates_33 (by decide) (L' := [(1, z_i (v1_1 + 1)), (0, .ref r_o), (2, z_i v2_1)]) rfl ?_
          obtain ⟨c11, hm⟩ := z_chk_some hm
          refine z_iinc C dX6_manyStates_34 2 rfl (by decide) (L' := [(2, z_i (v2_1 + 1)), (1, z_i (v1_1 + 1)), (0, .ref r_o)]) rfl ?_
          refine z_goto (tgt := 8) C dX6_manyStates_37 (by decide) ?_
          refine z_sub (L' := [(0, .ref r_o), (1, z_i (v1_1 + 1)), (2, z_i (v2_1 + 1))]) [2, 1, 0] rfl ?_
          exact ih1 (v1_1 + 1) (v2_1 + 1) c10 c11 hm
  refine z_sub (L' := [(0, .ref r_o), (1, z_i 0), (2, z_i 0)]) [2, 1, 0] rfl ?_
  exact L1 N 0 0 (z_k 0 rfl) (z_k 0 rfl) hl
