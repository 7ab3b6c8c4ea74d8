set_option maxRecDepth 100000 in
theorem k_X6_year (l : Launch) (G : z_G) (N : Nat) (r_o r_Atext r_Atold r_Adraft r_Abegun r_As r_Apast r_Aimages r_Arings r_Astates r_Aheld r_Ahere r_Athere : Nat) (r_text : (Int → Int)) (r_typed : Int) (r_told : (Int → Int)) (r_draft : (Int → Int)) (r_begun : (Int → Int)) (r_s : (Int → Int)) (r_past : (Int → Int)) (r_known : Int) (r_images : (Int → Int)) (r_kept : Int) (r_rings : (Int → Int)) (r_rung : Int) (r_at : Int) (r_states : (Int → Int)) (r_held : (Int → Int)) (r_here : (Int → Int)) (r_there : (Int → Int)) (x1 : Int) (x2 : Int) (x3 : Int) (h_r_text : z_r r_text) (h_r_typed : z_n r_typed) (h_r_told : z_r r_told) (h_r_draft : z_r r_draft) (h_r_begun : z_r r_begun) (h_r_s : z_r r_s) (h_r_past : z_r r_past) (h_r_known : z_n r_known) (h_r_images : z_r r_images) (h_r_kept : z_n r_kept) (h_r_rings : z_r r_rings) (h_r_rung : z_n r_rung) (h_r_at : z_n r_at) (h_r_states : z_r r_states) (h_r_held : z_r r_held) (h_r_here : z_r r_here) (h_r_there : z_r r_there) (h_x1 : z_n x1) (h_x2 : z_n x2) (h_x3 : z_n x3) (rr : Int) (q_r_s : (Int → Int)) (q_r_states : (Int → Int)) (q_r_held : (Int → Int)) (hm : m_X6_year N r_told r_s r_states r_held x1 x2 x3 = some (rr, q_r_s, q_r_states, q_r_held)) : z_M l G yX6_year cX6_year 9 (some .int) (k2_rm 6 139) [.ref r_o, z_i x1, z_i x2, z_i x3] ([(r_o, z_o 6 [.ref r_Atext, z_i r_typed, .ref r_Atold, .ref r_Adraft, .ref r_Abegun, .ref r_As, .ref r_Apast, z_i r_known, .ref r_Aimages, z_i r_kept, .ref r_Arings, z_i r_rung, z_i r_at, .ref r_Astates, .ref r_Aheld, .ref r_Ahere, .ref r_Athere]), (r_Atext, z_a G.2.1 200 r_text), (r_Atold, z_a G.2.1 39 r_told), (r_Adraft, z_a G.2.1 39 r_draft), (r_Abegun, z_a G.2.1 73 r_begun), (r_As, z_a G.2.1 73 r_s), (r_Apast, z_a G.2.1 584 r_past), (r_Aimages, z_a G.2.1 146 r_images), (r_Arings, z_a G.2.1 6 r_rings), (r_Astates, z_a G.2.1 36 r_states), (r_Aheld, z_a G.2.1 73 r_held), (r_Ahere, z_a G.2.2.2.2 36 r_here), (r_Athere, z_a G.2.2.2.2 36 r_there)]) 0 0 (fun v w => v = some (z_i rr) ∧ w = [(r_o, z_o 6 [.ref r_Atext, z_i r_typed, .ref r_Atold, .ref r_Adraft, .ref r_Abegun, .ref r_As, .ref r_Apast, z_i r_known, .ref r_Aimages, z_i r_kept, .ref r_Arings, z_i r_rung, z_i r_at, .ref r_Astates, .ref r_Aheld, .ref r_Ahere, .ref r_Athere]), (r_Atext, z_a G.2.1 200 r_text), (r_Atold, z_a G.2.1 39 r_told), (r_Adraft, z_a G.2.1 39 r_draft), (r_Abegun, z_a G.2.1 73 r_begun), (r_As, z_a G.2.1 73 q_r_s), (r_Apast, z_a G.2.1 584 r_past), (r_Aimages, z_a G.2.1 146 r_images), (r_Arings, z_a G.2.1 6 r_rings), (r_Astates, z_a G.2.1 36 q_r_states), (r_Aheld, z_a G.2.1 73 q_r_held), (r_Ahere, z_a G.2.2.2.2 36 r_here), (r_Athere, z_a G.2.2.2.2 36 r_there)] ∧ z_n rr ∧ z_r q_r_s ∧ z_r q_r_states ∧ z_r q_r_held ∧ True) := by
  unfold m_X6_year at hm
  refine z_M.intro (by decide +kernel) (Nat.le_of_ble_eq_true rfl) (L := [(0, .ref r_o), (1, z_i x1), (2, z_i x2), (3, z_i x3)]) rfl (fun X C E => ?_)
  refine z_iload_n C dX6_year_0 1 rfl ?_
  refine z_iconst C dX6_year_1 ?_
  refine z_sipush C dX6_year_2 (by decide) ?_
  obtain ⟨r1, k2, hm⟩ := z_b1s hm
  refine z_callSi C (k_X6_in l G N x1 0 9999 h_x1 (z_k 0 rfl) (z_k 9999 rfl) r1 k2) zs_X6_in zl_X6_57 dX6_year_5 [] rfl rfl rfl (ws' := [(r_o, z_o 6 [.ref r_Atext, z_i r_typed, .ref r_Atold, .ref r_Adraft, .ref r_Abegun, .ref r_As, .ref r_Apast, z_i r_known, .ref r_Aimages, z_i r_kept, .ref r_Arings, z_i r_rung, z_i r_at, .ref r_Astates, .ref r_Aheld, .ref r_Ahere, .ref r_Athere]), (r_Atext, z_a G.2.1 200 r_text), (r_Atold, z_a G.2.1 39 r_told), (r_Adraft, z_a G.2.1 39 r_draft), (r_Abegun, z_a G.2.1 73 r_begun), (r_As, z_a G.2.1 73 r_s), (r_Apast, z_a G.2.1 584 r_past), (r_Aimages, z_a G.2.1 146 r_images), (r_Arings, z_a G.2.1 6 r_rings), (r_Astates, z_a G.2.1 36 r_states), (r_Aheld, z_a G.2.1 73 r_held), (r_Ahere, z_a G.2.2.2.2 36 r_here), (r_Athere, z_a G.2.2.2.2 36 r_there)]) rfl rfl [] rfl (Nat.le_of_ble_eq_true rfl) ⟨Nat.le_of_ble_eq_true rfl, Nat.le_of_ble_eq_true rfl⟩ ⟨rfl, rfl⟩ ⟨Nat.zero_le _, Nat.zero_le _⟩ (fun hF => ?_)
  obtain ⟨hb_r1, -⟩ := hF
  refine z_if_eq (tgt := 30) C (z_n01 hb_r1) dX6_year_8 (by decide) (fun c3 => ?_) (fun c3 => ?_)
  · have hm := z_pos c3 hm
    refine z_iconst C dX6_year_30 ?_
    cases hm
    exact z_iret C E dX6_year_31 ⟨rfl, rfl, (z_k (-1) rfl), h_r_s, h_r_states, h_r_held, trivial⟩
  · have hm := z_neg c3 hm
    refine z_iload_n C dX6_year_11 2 rfl ?_
    refine z_iconst C dX6_year_12 ?_
    refine z_bipush C dX6_year_13 (by decide) ?_
    obtain ⟨r4, k5, hm⟩ := z_b1s hm
    refine z_callSi C (k_X6_in l G N x2 1 30 h_x2 (z_k 1 rfl) (z_k 30 rfl) r4 k5) zs_X6_in zl_X6_57 dX6_year_15 [] rfl rfl rfl (ws' := [(r_o, z_o 6 [.ref r_Atext, z_i r_typed, .ref r_Atold, .ref r_Adraft, .ref r_Abegun, .ref r_As, .ref r_Apast, z_i r_known, .ref r_Aimages, z_i r_kept, .ref r_Arings, z_i r_rung, z_i r_at, .ref r_Astates, .ref r_Aheld, .ref r_Ahere, .ref r_Athere]), (r_Atext, z_a G.2.1 200 r_text), (r_Atold, z_a G.2.1 39 r_told), (r_Adraft, z_a G.2.1 39 r_draft), (r_Abegun, z_a G.2.1 73 r_begun), (r_As, z_a G.2.1 73 r_s), (r_Apast, z_a G.2.1 584 r_past), (r_Aimages, z_a G.2.1 146 r_images), (r_Arings, z_a G.2.1 6 r_rings), (r_Astates, z_a G.2.1 36 r_states), (r_Aheld, z_a G.2.1 73 r_held), (r_Ahere, z_a G.2.2.2.2 36 r_here), (r_Athere, z_a G.2.2.2.2 36 r_there)]) rfl rfl [] rfl (Nat.le_of_ble_eq_true rfl) ⟨Nat.le_of_ble_eq_true rfl, Nat.le_of_ble_eq_true rfl⟩ ⟨rfl, rfl⟩ ⟨Nat.zero_le _, Nat.zero_le _⟩ (fun hF => ?_)
    obtain ⟨hb_r4, -⟩ := hF
    refine z_if_eq (tgt := 30) C (z_n01 hb_r4) dX6_year_18 (by decide) (fun c6 => ?_) (fun c6 => ?_)
    · have hm := z_pos c6 hm
      refine z_iconst C dX6_year_30 ?_
      cases hm
      exact z_iret C E dX6_year_31 ⟨rfl, rfl, (z_k (-1) rfl), h_r_s, h_r_states, h_r_held, trivial⟩
    · have hm := z_neg c6 hm
      refine z_iload_n C dX6_year_21 3 rfl ?_
      refine z_iconst C dX6_year_22 ?_
      refine z_iconst C dX6_year_23 ?_
      obtain ⟨r7, k8, hm⟩ := z_b1s hm
      refine z_callSi C (k_X6_in l G N x3 0 1 h_x3 (z_k 0 rfl) (z_k 1 rfl) r7 k8) zs_X6_in zl_X6_57 dX6_year_24 [] rfl rfl rfl (ws' := [(r_o, z_o 6 [.ref r_Atext, z_i r_typed, .ref r_Atold, .ref r_Adraft, .ref r_Abegun, .ref r_As, .ref r_Apast, z_i r_known, .ref r_Aimages, z_i r_kept, .ref r_Arings, z_i r_rung, z_i r_at, .ref r_Astates, .ref r_Aheld, .ref r_Ahere, .ref r_Athere]), (r_Atext, z_a G.2.1 200 r_text), (r_Atold, z_a G.2.1 39 r_told), (r_Adraft, z_a G.2.1 39 r_draft), (r_Abegun, z_a G.2.1 73 r_begun), (r_As, z_a G.2.1 73 r_s), (r_Apast, z_a G.2.1 584 r_past), (r_Aimages, z_a G.2.1 146 r_images), (r_Arings, z_a G.2.1 6 r_rings), (r_Astates, z_a G.2.1 36 r_states), (r_Aheld, z_a G.2.1 73 r_held), (r_Ahere, z_a G.2.2.2.2 36 r_here), (r_Athere, z_a G.2.2.2.2 36 r_there)]) rfl rfl [] rfl (Nat.le_of_ble_eq_true rfl) ⟨Nat.le_of_ble_eq_true rfl, Nat.le_of_ble_eq_true rfl⟩ ⟨rfl, rfl⟩ ⟨Nat.zero_le _, Nat.zero_le _⟩ (fun hF => ?_)
      obtain ⟨hb_r7, -⟩ := hF
      refine z_if_ne (tgt := 32) C (z_n01 hb_r7) dX6_year_27 (by decide) (fun c9 => ?_) (fun c9 => ?_)
      · have hm := z_pos c9 hm
        refine z_aload_n C dX6_year_32 0 rfl ?_
        obtain ⟨r_held_10, k11, hm⟩ := z_b1s hm
        refine z_callVvd C (k_X6_holds l G N r_o r_Atext r_Atold r_Adraft r_Abegun r_As r_Apast r_Aimages r_Arings r_Astates r_Aheld r_Ahere r_Athere r_text r_typed r_told r_draft r_begun r_s r_past r_known r_images r_kept r_rings r_rung r_at r_states r_held r_here r_there h_r_text h_r_typed h_r_told h_r_draft h_r_begun h_r_s h_r_past h_r_known h_r_images h_r_kept h_r_rings h_r_rung h_r_at h_r_states h_r_held h_r_here h_r_there r_held_10 k11) zv_X6_holds zl_X6_137 dX6_year_33 rfl 0 rfl rfl rfl [] rfl (Nat.le_of_ble_eq_true rfl) ⟨Nat.le_of_ble_eq_true rfl, Nat.le_of_ble_eq_true rfl⟩ ⟨rfl, rfl⟩ ⟨Nat.zero_le _, Nat.zero_le _⟩ (fun hF => ?_)
        obtain ⟨h_r_held_10, -⟩ := hF
        refine z_iconst C dX6_year_36 ?_
        refine z_istore C dX6_year_37 (by decide) (L' := [(4, z_i 0), (0, .ref r_o), (1, z_i x1), (2, z_i x2), (3, z_i x3)]) rfl ?_
        obtain ⟨o_r_s_1, hl, hm⟩ := z_b1s hm
        have JX1 : z_r o_r_s_1 → z_J X 0 0 ([(r_o, z_o 6 [.ref r_Atext, z_i r_typed, .ref r_Atold, .ref r_Adraft, .ref r_Abegun, .ref r_As, .ref r_Apast, z_i r_known, .ref r_Aimages, z_i r_kept, .ref r_Arings, z_i r_rung, z_i r_at, .ref r_Astates, .ref r_Aheld, .ref r_Ahere, .ref r_Athere]), (r_Atext, z_a G.2.1 200 r_text), (r_Atold, z_a G.2.1 39 r_told), (r_Adraft, z_a G.2.1 39 r_draft), (r_Abegun, z_a G.2.1 73 r_begun), (r_As, z_a G.2.1 73 o_r_s_1), (r_Apast, z_a G.2.1 584 r_past), (r_Aimages, z_a G.2.1 146 r_images), (r_Arings, z_a G.2.1 6 r_rings), (r_Astates, z_a G.2.1 36 r_states), (r_Aheld, z_a G.2.1 73 r_held_10), (r_Ahere, z_a G.2.2.2.2 36 r_here), (r_Athere, z_a G.2.2.2.2 36 r_there)]) [(0, .ref r_o), (3, z_i x3)] 123 [] := by
          intro h_o_r_s_1
          clear hl
          refine z_iload_n C dX6_year_123 1 rfl ?_
          obtain ⟨s34, r_states_35, hj, hm⟩ := z_b2s hm
          have J36 : z_n s34 → z_r r_states_35 → z_J X 0 0 ([(r_o, z_o 6 [.ref r_Atext, z_i r_typed, .ref r_Atold, .ref r_Adraft, .ref r_Abegun, .ref r_As, .ref r_Apast, z_i r_known, .ref r_Aimages, z_i r_kept, .ref r_Arings, z_i r_rung, z_i r_at, .ref r_Astates, .ref r_Aheld, .ref r_Ahere, .ref r_Athere]), (r_Atext, z_a G.2.1 200 r_text), (r_Atold, z_a G.2.1 39 r_told), (r_Adraft, z_a G.2.1 39 r_draft), (r_Abegun, z_a G.2.1 73 r_begun), (r_As, z_a G.2.1 73 o_r_s_1), (r_Apast, z_a G.2.1 584 r_past), (r_Aimages, z_a G.2.1 146 r_images), (r_Arings, z_a G.2.1 6 r_rings), (r_Astates, z_a G.2.1 36 r_states_35), (r_Aheld, z_a G.2.1 73 r_held_10), (r_Ahere, z_a G.2.2.2.2 36 r_here), (r_Athere, z_a G.2.2.2.2 36 r_there)]) [(0, .ref r_o)] 138 [z_i s34] := by
            intro h_s34 h_r_states_35
            clear hj
            refine z_istore C dX6_year_138 (by decide) (L' := [(4, z_i s34), (0, .ref r_o)]) rfl ?_
            refine z_aload_n C dX6_year_140 1 rfl ?_
            obtain ⟨r_s_37, k38, hm⟩ := z_b1s hm
            refine z_callVvd C (k_X6_lets l G N r_o r_Atext r_Atold r_Adraft r_Abegun r_As r_Apast r_Aimages r_Arings r_Astates r_Aheld r_Ahere r_Athere r_text r_typed r_told r_draft r_begun o_r_s_1 r_past r_known r_images r_kept r_rings r_rung r_at r_states_35 r_held_10 r_here r_there h_r_text h_r_typed h_r_told h_r_draft h_r_begun h_o_r_s_1 h_r_past h_r_known h_r_images h_r_kept h_r_rings h_r_rung h_r_at h_r_states_35 h_r_held_10 h_r_here h_r_there r_s_37 k38) zv_X6_lets zl_X6_140 dX6_year_141 rfl 0 rfl rfl rfl [] rfl (Nat.le_of_ble_eq_true rfl) ⟨Nat.le_of_ble_eq_true rfl, Nat.le_of_ble_eq_true rfl⟩ ⟨rfl, rfl⟩ ⟨Nat.zero_le _, Nat.zero_le _⟩ (fun hF => ?_)
            obtain ⟨h_r_s_37, -⟩ := hF
            refine z_iload C dX6_year_144 0 rfl ?_
            cases hm
            exact z_iret C E dX6_year_146 ⟨rfl, rfl, h_s34, h_r_s_37, h_r_states_35, h_r_held_10, trivial⟩
          replace hm := hj
          clear hj
          refine z_if_ne (tgt := 134) C h_x3 dX6_year_124 (by decide) (fun c28 => ?_) (fun c28 => ?_)
          · have hm := z_pos c28 hm
            refine z_aload_n C dX6_year_134 0 rfl ?_
            obtain ⟨r29, k30, hm⟩ := z_b1s hm
            refine z_callVid C (k_X6_all l G N r_o r_Atext r_Atold r_Adraft r_Abegun r_As r_Apast r_Aimages r_Arings r_Astates r_Aheld r_Ahere r_Athere r_text r_typed r_told r_draft r_begun o_r_s_1 r_past r_known r_images r_kept r_rings r_rung r_at r_states r_held_10 r_here r_there h_r_text h_r_typed h_r_told h_r_draft h_r_begun h_o_r_s_1 h_r_past h_r_known h_r_images h_r_kept h_r_rings h_r_rung h_r_at h_r_states h_r_held_10 h_r_here h_r_there r29 k30) zv_X6_all zl_X6_131 dX6_year_135 rfl 0 rfl rfl rfl [] rfl (Nat.le_of_ble_eq_true rfl) ⟨Nat.le_of_ble_eq_true rfl, Nat.le_of_ble_eq_true rfl⟩ ⟨rfl, rfl⟩ ⟨Nat.zero_le _, Nat.zero_le _⟩ (fun hF => ?_)
            obtain ⟨h_r29, -⟩ := hF
            refine z_sub (L' := [(0, .ref r_o)]) [0] rfl ?_
            cases hm
            exact J36 h_r29 h_r_states
          · have hm := z_neg c28 hm
            refine z_aload_n C dX6_year_127 0 rfl ?_
            obtain ⟨r31, r_states_32, k33, hm⟩ := z_b2s hm
            refine z_callVid C (k_X6_manyStates l G N r_o r_Atext r_Atold r_Adraft r_Abegun r_As r_Apast r_Aimages r_Arings r_Astates r_Aheld r_Ahere r_Athere r_text r_typed r_told r_draft r_begun o_r_s_1 r_past r_known r_images r_kept r_rings r_rung r_at r_states r_held_10 r_here r_there h_r_text h_r_typed h_r_told h_r_draft h_r_begun h_o_r_s_1 h_r_past h_r_known h_r_images h_r_kept h_r_rings h_r_rung h_r_at h_r_states h_r_held_10 h_r_here h_r_there r31 r_states_32 k33) zv_X6_manyStates zl_X6_165 dX6_year_128 rfl 0 rfl rfl rfl [] rfl (Nat.le_of_ble_eq_true rfl) ⟨Nat.le_of_ble_eq_true rfl, Nat.le_of_ble_eq_true rfl⟩ ⟨rfl, rfl⟩ ⟨Nat.zero_le _, Nat.zero_le _⟩ (fun hF => ?_)
            obtain ⟨h_r31, h_r_states_32, -⟩ := hF
            refine z_goto (tgt := 138) C dX6_year_131 (by decide) ?_
            refine z_sub (L' := [(0, .ref r_o)]) [0] rfl ?_
            cases hm
            exact J36 h_r31 h_r_states_32
        clear hm
        have L1 : ∀ (n1 : Nat) (v4_1 : Int) (r_s_1 : (Int → Int)), z_n v4_1 → z_r r_s_1 → m_X6_year_l1 N x2 x1 r_told n1 v4_1 r_s_1 = some (o_r_s_1) → z_J X 0 0 ([(r_o, z_o 6 [.ref r_Atext, z_i r_typed, .ref r_Atold, .ref r_Adraft, .ref r_Abegun, .ref r_As, .ref r_Apast, z_i r_known, .ref r_Aimages, z_i r_kept, .ref r_Arings, z_i r_rung, z_i r_at, .ref r_Astates, .ref r_Aheld, .ref r_Ahere, .ref r_Athere]), (r_Atext, z_a G.2.1 200 r_text), (r_Atold, z_a G.2.1 39 r_told), (r_Adraft, z_a G.2.1 39 r_draft), (r_Abegun, z_a G.2.1 73 r_begun), (r_As, z_a G.2.1 73 r_s_1), (r_Apast, z_a G.2.1 584 r_past), (r_Aimages, z_a G.2.1 146 r_images), (r_Arings, z_a G.2.1 6 r_rings), (r_Astates, z_a G.2.1 36 r_states), (r_Aheld, z_a G.2.1 73 r_held_10), (r_Ahere, z_a G.2.2.2.2 36 r_here), (r_Athere, z_a G.2.2.2.2 36 r_there)]) [(0, .ref r_o), (1, z_i x1), (2, z_i x2), (3, z_i x3), (4, z_i v4_1)] 39 [] := by
          clear hl
          intro n1
          induction n1 with
          | zero =>
            intro v4_1 r_s_1 h_v4_1 h_r_s_1 hm
            rw [m_X6_year_l1] at hm
            cases hm
          | succ n1 ih1 =>
            intro v4_1 r_s_1 h_v4_1 h_r_s_1 hm
            rw [m_X6_year_l1] at hm
            refine z_iload C dX6_year_39 4 rfl ?_
            refine z_iload_n C dX6_year_41 2 rfl ?_
            refine z_icmp_ge (tgt := 123) C h_v4_1 h_x2 dX6_year_42 (by decide) (fun c12 => ?_) (fun c12 => ?_)
            · have hm := z_pos c12 hm
              refine z_sub (L' := [(0, .ref r_o), (3, z_i x3)]) [0, 3] rfl ?_
              cases hm
              exact JX1 h_r_s_1
            · have hm := z_neg c12 hm
              refine z_ldc2 C zc_X6_159 dX6_year_45 ?_
              refine z_iload_n C dX6_year_48 1 rfl ?_
              refine z_i2lR C dX6_year_49 ?_
              refine z_lmul C dX6_year_50 ?_
              refine z_ldc2 C zc_X6_161 dX6_year_51 ?_
              refine z_iload C dX6_year_54 4 rfl ?_
              refine z_i2lR C dX6_year_56 ?_
              refine z_lmul C dX6_year_57 ?_
              refine z_ladd C dX6_year_58 ?_
              refine z_lconst (v := (1 : Int64)) C dX6_year_59 (by decide) ?_
              refine z_ladd C dX6_year_60 ?_
              refine z_lstore C dX6_year_61 (by decide) (L' := [(5, .long ((((7919 : Int64) * (z_i2l x1)) + ((6151 : Int64) * (z_i2l v4_1))) + (1 : Int64))), (0, .ref r_o), (1, z_i x1), (2, z_i x2), (3, z_i x3), (4, z_i v4_1)]) rfl ?_
              refine z_lload C dX6_year_63 0 rfl ?_
              refine z_lload C dX6_year_65 0 rfl ?_
              refine z_lmul C dX6_year_67 ?_
              refine z_ldc2 C zc_X6_163 dX6_year_68 ?_
              refine z_lremR C (by decide) dX6_year_71 ?_
              refine z_l2iR C dX6_year_72 ?_
              refine z_bipush C dX6_year_73 (by decide) ?_
              obtain ⟨c13, hm⟩ := z_chk_some hm
              refine z_idiv C (z_n_l2i _) (z_k 8 rfl) (by decide) dX6_year_75 ?_
              refine z_istore C dX6_year_76 (by decide) (L' := [(7, z_i (Int.tdiv (z_l2i (z_lrem (((((7919 : Int64) * (z_i2l x1)) + ((6151 : Int64) * (z_i2l v4_1))) + (1 : Int64)) * ((((7919 : Int64) * (z_i2l x1)) + ((6151 : Int64) * (z_i2l v4_1))) + (1 : Int64))) (65521 : Int64))) 8)), (5, .long ((((7919 : Int64) * (z_i2l x1)) + ((6151 : Int64) * (z_i2l v4_1))) + (1 : Int64))), (0, .ref r_o), (1, z_i x1), (2, z_i x2), (3, z_i x3), (4, z_i v4_1)]) rfl ?_
              refine z_iload C dX6_year_78 0 rfl ?_
              refine z_iconst C dX6_year_80 ?_
              obtain ⟨c14, hm⟩ := z_chk_some hm
              refine z_irem C c13 (z_k 4 rfl) (by decide) dX6_year_81 ?_
              obtain ⟨r_s_19, hj, hm⟩ := z_b1s hm
              have J20 : z_r r_s_19 → z_J X 0 0 ([(r_o, z_o 6 [.ref r_Atext, z_i r_typed, .ref r_Atold, .ref r_Adraft, .ref r_Abegun, .ref r_As, .ref r_Apast, z_i r_known, .ref r_Aimages, z_i r_kept, .ref r_Arings, z_i r_rung, z_i r_at, .ref r_Astates, .ref r_Aheld, .ref r_Ahere, .ref r_Athere]), (r_Atext, z_a G.2.1 200 r_text), (r_Atold, z_a G.2.1 39 r_told), (r_Adraft, z_a G.2.1 39 r_draft), (r_Abegun, z_a G.2.1 73 r_begun), (r_As, z_a G.2.1 73 r_s_19), (r_Apast, z_a G.2.1 584 r_past), (r_Aimages, z_a G.2.1 146 r_images), (r_Arings, z_a G.2.1 6 r_rings), (r_Astates, z_a G.2.1 36 r_states), (r_Aheld, z_a G.2.1 73 r_held_10), (r_Ahere, z_a G.2.2.2.2 36 r_here), (r_Athere, z_a G.2.2.2.2 36 r_there)]) [(0, .ref r_o), (1, z_i x1), (2, z_i x2), (3, z_i x3), (4, z_i v4_1), (7, z_i (Int.tdiv (z_l2i (z_lrem (((((7919 : Int64) * (z_i2l x1)) + ((6151 : Int64) * (z_i2l v4_1))) + (1 : Int64)) * ((((7919 : Int64) * (z_i2l x1)) + ((6151 : Int64) * (z_i2l v4_1))) + (1 : Int64))) (65521 : Int64))) 8))] 93 [] := by
                intro h_r_s_19
                clear hj
                refine z_iconst C dX6_year_93 ?_
                refine z_istore C dX6_year_94 (by decide) (L' := [(8, z_i 0), (0, .ref r_o), (1, z_i x1), (2, z_i x2), (3, z_i x3), (4, z_i v4_1), (7, z_i (Int.tdiv (z_l2i (z_lrem (((((7919 : Int64) * (z_i2l x1)) + ((6151 : Int64) * (z_i2l v4_1))) + (1 : Int64)) * ((((7919 : Int64) * (z_i2l x1)) + ((6151 : Int64) * (z_i2l v4_1))) + (1 : Int64))) (65521 : Int64))) 8))]) rfl ?_
                obtain ⟨o_r_s_2, hl, hm⟩ := z_b1s hm
                have JX2 : z_r o_r_s_2 → z_J X 0 0 ([(r_o, z_o 6 [.ref r_Atext, z_i r_typed, .ref r_Atold, .ref r_Adraft, .ref r_Abegun, .ref r_As, .ref r_Apast, z_i r_known, .ref r_Aimages, z_i r_kept, .ref r_Arings, z_i r_rung, z_i r_at, .ref r_Astates, .ref r_Aheld, .ref r_Ahere, .ref r_Athere]), (r_Atext, z_a G.2.1 200 r_text), (r_Atold, z_a G.2.1 39 r_told), (r_Adraft, z_a G.2.1 39 r_draft), (r_Abegun, z_a G.2.1 73 r_begun), (r_As, z_a G.2.1 73 o_r_s_2), (r_Apast, z_a G.2.1 584 r_past), (r_Aimages, z_a G.2.1 146 r_images), (r_Arings, z_a G.2.1 6 r_rings), (r_Astates, z_a G.2.1 36 r_states), (r_Aheld, z_a G.2.1 73 r_held_10), (r_Ahere, z_a G.2.2.2.2 36 r_here), (r_Athere, z_a G.2.2.2.2 36 r_there)]) [(0, .ref r_o), (1, z_i x1), (2, z_i x2), (3, z_i x3), (4, z_i v4_1)] 117 [] := by
                  intro h_o_r_s_2
                  clear hl
                  obtain ⟨c27, hm⟩ := z_chk_some hm
                  refine z_iinc C dX6_year_117 4 rfl (by decide) (L' := [(4, z_i (v4_1 + 1)), (0, .ref r_o), (1, z_i x1), (2, z_i x2), (3, z_i x3)]) rfl ?_
                  refine z_goto (tgt := 39) C dX6_year_120 (by decide) ?_
                  refine z_sub (L' := [(0, .ref r_o), (1, z_i x1), (2, z_i x2), (3, z_i x3), (4, z_i (v4_1 + 1))]) [1, 2, 3, 4, 0] rfl ?_
                  exact ih1 (v4_1 + 1) o_r_s_2 c27 h_o_r_s_2 hm
                clear hm
                have L2 : ∀ (n2 : Nat) (v8_2 : Int) (r_s_2 : (Int → Int)), z_n v8_2 → z_r r_s_2 → m_X6_year_l2 N (Int.tdiv (z_l2i (z_lrem (((((7919 : Int64) * (z_i2l x1)) + ((6151 : Int64) * (z_i2l v4_1))) + (1 : Int64)) * ((((7919 : Int64) * (z_i2l x1)) + ((6151 : Int64) * (z_i2l v4_1))) + (1 : Int64))) (65521 : Int64))) 8) r_told n2 v8_2 r_s_2 = some (o_r_s_2) → z_J X 0 0 ([(r_o, z_o 6 [.ref r_Atext, z_i r_typed, .ref r_Atold, .ref r_Adraft, .ref r_Abegun, .ref r_As, .ref r_Apast, z_i r_known, .ref r_Aimages, z_i r_kept, .ref r_Arings, z_i r_rung, z_i r_at, .ref r_Astates, .ref r_Aheld, .ref r_Ahere, .ref r_Athere]), (r_Atext, z_a G.2.1 200 r_text), (r_Atold, z_a G.2.1 39 r_told), (r_Adraft, z_a G.2.1 39 r_draft), (r_Abegun, z_a G.2.1 73 r_begun), (r_As, z_a G.2.1 73 r_s_2), (r_Apast, z_a G.2.1 584 r_past), (r_Aimages, z_a G.2.1 146 r_images), (r_Arings, z_a G.2.1 6 r_rings), (r_Astates, z_a G.2.1 36 r_states), (r_Aheld, z_a G.2.1 73 r_held_10), (r_Ahere, z_a G.2.2.2.2 36 r_here), (r_Athere, z_a G.2.2.2.2 36 r_there)]) [(0, .ref r_o), (1, z_i x1), (2, z_i x2), (3, z_i x3), (4, z_i v4_1), (7, z_i (Int.tdiv (z_l2i (z_lrem (((((7919 : Int64) * (z_i2l x1)) + ((6151 : Int64) * (z_i2l v4_1))) + (1 : Int64)) * ((((7919 : Int64) * (z_i2l x1)) + ((6151 : Int64) * (z_i2l v4_1))) + (1 : Int64))) (65521 : Int64))) 8)), (8, z_i v8_2)] 96 [] := by
                  clear hl
                  intro n2
                  induction n2 with
                  | zero =>
                    intro v8_2 r_s_2 h_v8_2 h_r_s_2 hm
                    rw [m_X6_year_l2] at hm
                    cases hm
                  | succ n2 ih2 =>
                    intro v8_2 r_s_2 h_v8_2 h_r_s_2 hm
                    rw [m_X6_year_l2] at hm
                    refine z_iload C dX6_year_96 6 rfl ?_
                    refine z_iload C dX6_year_98 5 rfl ?_
                    refine z_iconst C dX6_year_100 ?_
                    obtain ⟨c21, hm⟩ := z_chk_some hm
                    refine z_idiv C c13 (z_k 4 rfl) (by decide) dX6_year_101 ?_
                    refine z_iconst C dX6_year_102 ?_
                    obtain ⟨c22, hm⟩ := z_chk_some hm
                    refine z_irem C c21 (z_k 4 rfl) (by decide) dX6_year_103 ?_
                    refine z_icmp_ge (tgt := 117) C h_v8_2 c22 dX6_year_104 (by decide) (fun c23 => ?_) (fun c23 => ?_)
                    · have hm := z_pos c23 hm
                      refine z_sub (L' := [(0, .ref r_o), (1, z_i x1), (2, z_i x2), (3, z_i x3), (4, z_i v4_1)]) [0, 1, 2, 3, 4] rfl ?_
                      cases hm
                      exact JX2 h_r_s_2
                    · have hm := z_neg c23 hm
                      refine z_aload_n C dX6_year_107 0 rfl ?_
                      obtain ⟨r_s_24, k25, hm⟩ := z_b1s hm
                      refine z_callVvd C (k_X6_shines l G N r_o r_Atext r_Atold r_Adraft r_Abegun r_As r_Apast r_Aimages r_Arings r_Astates r_Aheld r_Ahere r_Athere r_text r_typed r_told r_draft r_begun r_s_2 r_past r_known r_images r_kept r_rings r_rung r_at r_states r_held_10 r_here r_there h_r_text h_r_typed h_r_told h_r_draft h_r_begun h_r_s_2 h_r_past h_r_known h_r_images h_r_kept h_r_rings h_r_rung h_r_at h_r_states h_r_held_10 h_r_here h_r_there r_s_24 k25) zv_X6_shines zl_X6_134 dX6_year_108 rfl 0 rfl rfl rfl [] rfl (Nat.le_of_ble_eq_true rfl) ⟨Nat.le_of_ble_eq_true rfl, Nat.le_of_ble_eq_true rfl⟩ ⟨rfl, rfl⟩ ⟨Nat.zero_le _, Nat.zero_le _⟩ (fun hF => ?_)
                      obtain ⟨h_r_s_24, -⟩ := hF
                      obtain ⟨c26, hm⟩ := z_chk_some hm
                      refine z_iinc C dX6_year_111 6 rfl (by decide) (L' := [(8, z_i (v8_2 + 1)), (0, .ref r_o), (1, z_i x1), (2, z_i x2), (3, z_i x3), (4, z_i v4_1), (7, z_i (Int.tdiv (z_l2i (z_lrem (((((7919 : Int64) * (z_i2l x1)) + ((6151 : Int64) * (z_i2l v4_1))) + (1 : Int64)) * ((((7919 : Int64) * (z_i2l x1)) + ((6151 : Int64) * (z_i2l v4_1))) + (1 : Int64))) (65521 : Int64))) 8))]) rfl ?_
                      refine z_goto (tgt := 96) C dX6_year_114 (by decide) ?_
                      refine z_sub (L' := [(0, .ref r_o), (1, z_i x1), (2, z_i x2), (3, z_i x3), (4, z_i v4_1), (7, z_i (Int.tdiv (z_l2i (z_lrem (((((7919 : Int64) * (z_i2l x1)) + ((6151 : Int64) * (z_i2l v4_1))) + (1 : Int64)) * ((((7919 : Int64) * (z_i2l x1)) + ((6151 : Int64) * (z_i2l v4_1))) + (1 : Int64))) (65521 : Int64))) 8)), (8, z_i (v8_2 + 1))]) [1, 2, 3, 4, 5, 6, 0] rfl ?_
                      exact ih2 (v8_2 + 1) r_s_24 c26 h_r_s_24 hm
                refine z_sub (L' := [(0, .ref r_o), (1, z_i x1), (2, z_i x2), (3, z_i x3), (4, z_i v4_1), (7, z_i (Int.tdiv (z_l2i (z_lrem (((((7919 : Int64) * (z_i2l x1)) + ((6151 : Int64) * (z_i2l v4_1))) + (1 : Int64)) * ((((7919 : Int64) * (z_i2l x1)) + ((6151 : Int64) * (z_i2l v4_1))) + (1 : Int64))) (65521 : Int64))) 8)), (8, z_i 0)]) [1, 2, 3, 4, 5, 6, 0] rfl ?_
                exact L2 N 0 r_s_19 (z_k 0 rfl) h_r_s_19 hl
              replace hm := hj
              clear hj
              refine z_if_le (tgt := 93) C c14 dX6_year_82 (by decide) (fun c15 => ?_) (fun c15 => ?_)
              · have hm := z_pos c15 hm
                refine z_sub (L' := [(0, .ref r_o), (1, z_i x1), (2, z_i x2), (3, z_i x3), (4, z_i v4_1), (7, z_i (Int.tdiv (z_l2i (z_lrem (((((7919 : Int64) * (z_i2l x1)) + ((6151 : Int64) * (z_i2l v4_1))) + (1 : Int64)) * ((((7919 : Int64) * (z_i2l x1)) + ((6151 : Int64) * (z_i2l v4_1))) + (1 : Int64))) (65521 : Int64))) 8))]) [2, 3, 4, 5, 6, 0] rfl ?_
                cases hm
                exact J20 h_r_s_1
              · have hm := z_neg c15 hm
                refine z_aload_n C dX6_year_85 2 rfl ?_
                refine z_iload C dX6_year_86 0 rfl ?_
                refine z_iconst C dX6_year_88 ?_
                obtain ⟨c16, hm⟩ := z_chk_some hm
                refine z_irem C c13 (z_k 4 rfl) (by decide) dX6_year_89 ?_
                obtain ⟨r_s_17, k18, hm⟩ := z_b1s hm
                refine z_callVvd C (k_X6_pours l G N r_o r_Atext r_Atold r_Adraft r_Abegun r_As r_Apast r_Aimages r_Arings r_Astates r_Aheld r_Ahere r_Athere r_text r_typed r_told r_draft r_begun r_s_1 r_past r_known r_images r_kept r_rings r_rung r_at r_states r_held_10 r_here r_there (Int.tmod (Int.tdiv (z_l2i (z_lrem (((((7919 : Int64) * (z_i2l x1)) + ((6151 : Int64) * (z_i2l v4_1))) + (1 : Int64)) * ((((7919 : Int64) * (z_i2l x1)) + ((6151 : Int64) * (z_i2l v4_1))) + (1 : Int64))) (65521 : Int64))) 8) 4) h_r_text h_r_typed h_r_told h_r_draft h_r_begun h_r_s_1 h_r_past h_r_known h_r_images h_r_kept h_r_rings h_r_rung h_r_at h_r_states h_r_held_10 h_r_here h_r_there c16 r_s_17 k18) zv_X6_pours zl_X6_127 dX6_year_90 rfl 0 rfl rfl rfl [] rfl (Nat.le_of_ble_eq_true rfl) ⟨Nat.le_of_ble_eq_true rfl, Nat.le_of_ble_eq_true rfl⟩ ⟨rfl, rfl⟩ ⟨Nat.zero_le _, Nat.zero_le _⟩ (fun hF => ?_)
                obtain ⟨h_r_s_17, -⟩ := hF
                refine z_sub (L' := [(0, .ref r_o), (1, z_i x1), (2, z_i x2), (3, z_i x3), (4, z_i v4_1), (7, z_i (Int.tdiv (z_l2i (z_lrem (((((7919 : Int64) * (z_i2l x1)) + ((6151 : Int64) * (z_i2l v4_1))) + (1 : Int64)) * ((((7919 : Int64) * (z_i2l x1)) + ((6151 : Int64) * (z_i2l v4_1))) + (1 : Int64))) (65521 : Int64))) 8))]) [2, 3, 4, 5, 6, 0] rfl ?_
                cases hm
                exact J20 h_r_s_17
        refine z_sub (L' := [(0, .ref r_o), (1, z_i x1), (2, z_i x2), (3, z_i x3), (4, z_i 0)]) [1, 2, 3, 4, 0] rfl ?_
        exact L1 N 0 r_s (z_k 0 rfl) h_r_s hl
      · have hm := z_neg c9 hm
        refine z_iconst C dX6_year_30 ?_
        cases hm
        exact z_iret C E dX6_year_31 ⟨rfl, rfl, (z_k (-1) rfl), h_r_s, h_r_states, h_r_held, trivial⟩
set_option maxRecDepth 100000 in
theorem k_X6_keep (l : Launch) (G : z_G) (N : Nat) (r_o r_Atext r_Atold r_Adraft r_Abegun r_As r_Apast r_Aimages r_Arings r_Astates r_Aheld r_Ahere r_Athere : Nat) (r_text : (Int → Int)) (r_typed : Int) (r_told : (Int → Int)) (r_draft : (Int → Int)) (r_begun : (Int → Int)) (r_s : (Int → Int)) (r_past : (Int → Int)) (r_known : Int) (r_images : (Int → Int)) (r_kept : Int) (r_rings : (Int → Int)) (r_rung : Int) (r_at : Int) (r_states : (Int → Int)) (r_held : (Int → Int)) (r_here : (Int → Int)) (r_there : (Int → Int)) (h_r_text : z_r r_text) (h_r_typed : z_n r_typed) (h_r_told : z_r r_told) (h_r_draft : z_r r_draft) (h_r_begun : z_r r_begun) (h_r_s : z_r r_s) (h_r_past : z_r r_past) (h_r_known : z_n r_known) (h_r_images : z_r r_images) (h_r_kept : z_n r_kept) (h_r_rings : z_r r_rings) (h_r_rung : z_n r_rung) (h_r_at : z_n r_at) (h_r_states : z_r r_states) (h_r_held : z_r r_held) (h_r_here : z_r r_here) (h_r_there : z_r r_there) (rr : Int) (q_r_images : (Int → Int)) (q_r_kept : Int) (hm : m_X6_keep N r_s r_images r_kept = some (rr, q_r_images, q_r_kept)) : z_M l G yX6_keep cX6_keep 2 (some .int) (k2_rm 0 0) [.ref r_o] ([(r_o, z_o 6 [.ref r_Atext, z_i r_typed, .ref r_Atold, .ref r_Adraft, .ref r_Abegun, .ref r_As, .ref r_Apast, z_i r_known, .ref r_Aimages, z_i r_kept, .ref r_Arings, z_i r_rung, z_i r_at, .ref r_Astates, .ref r_Aheld, .ref r_Ahere, .ref r_Athere]), (r_Atext, z_a G.2.1 200 r_text), (r_Atold, z_a G.2.1 39 r_told), (r_Adraft, z_a G.2.1 39 r_draft), (r_Abegun, z_a G.2.1 73 r_begun), (r_As, z_a G.2.1 73 r_s), (r_Apast, z_a G.2.1 584 r_past), (r_Aimages, z_a G.2.1 146 r_images), (r_Arings, z_a G.2.1 6 r_rings), (r_Astates, z_a G.2.1 36 r_states), (r_Aheld, z_a G.2.1 73 r_held), (r_Ahere, z_a G.2.2.2.2 36 r_here), (r_Athere, z_a G.2.2.2.2 36 r_there)]) 0 0 (fun v w => v = some (z_i rr) ∧ w = [(r_o, z_o 6 [.ref r_Atext, z_i r_typed, .ref r_Atold, .ref r_Adraft, .ref r_Abegun, .ref r_As, .ref r_Apast, z_i r_known, .ref r_Aimages, z_i q_r_kept, .ref r_Arings, z_i r_rung, z_i r_at, .ref r_Astates, .ref r_Aheld, .ref r_Ahere, .ref r_Athere]), (r_Atext, z_a G.2.1 200 r_text), (r_Atold, z_a G.2.1 39 r_told), (r_Adraft, z_a G.2.1 39 r_draft), (r_Abegun, z_a G.2.1 73 r_begun), (r_As, z_a G.2.1 73 r_s), (r_Apast, z_a G.2.1 584 r_past), (r_Aimages, z_a G.2.1 146 q_r_images), (r_Arings, z_a G.2.1 6 r_rings), (r_Astates, z_a G.2.1 36 r_states), (r_Aheld, z_a G.2.1 73 r_held), (r_Ahere, z_a G.2.2.2.2 36 r_here), (r_Athere, z_a G.2.2.2.2 36 r_there)] ∧ z_n rr ∧ z_r q_r_images ∧ z_n q_r_kept ∧ True) := by
  unfold m_X6_keep at hm
  refine z_M.intro (by decide +kernel) (Nat.le_of_ble_eq_true rfl) (L := [(0, .ref r_o)]) rfl (fun X C E => ?_)
  refine z_aload_n C dX6_keep_0 0 rfl ?_
  refine z_get C zf_X6_92 dX6_keep_1 0 rfl rfl ?_
  refine z_iconst C dX6_keep_4 ?_
  refine z_icmp_ne (tgt := 11) C h_r_kept (z_k 2 rfl) dX6_keep_5 (by decide) (fun c1 => ?_) (fun c1 => ?_)
  · have hm := z_pos c1 hm
    refine z_iconst C dX6_keep_11 ?_
    refine z_istore_n C dX6_keep_12 (by decide) (L' := [(1, z_i 0), (0, .ref r_o)]) rfl ?_
    obtain ⟨o_r_images_1, hl, hm⟩ := z_b1s hm
    have JX1 : z_r o_r_images_1 → z_J X 0 0 ([(r_o, z_o 6 [.ref r_Atext, z_i r_typed, .ref r_Atold, .ref r_Adraft, .ref r_Abegun, .ref r_As, .ref r_Apast, z_i r_known, .ref r_Aimages, z_i r_kept, .ref r_Arings, z_i r_rung, z_i r_at, .ref r_Astates, .ref r_Aheld, .ref r_Ahere, .ref r_Athere]), (r_Atext, z_a G.2.1 200 r_text), (r_Atold, z_a G.2.1 39 r_told), (r_Adraft, z_a G.2.1 39 r_draft), (r_Abegun, z_a G.2.1 73 r_begun), (r_As, z_a G.2.1 73 r_s), (r_Apast, z_a G.2.1 584 r_past), (r_Aimages, z_a G.2.1 146 o_r_images_1), (r_Arings, z_a G.2.1 6 r_rings), (r_Astates, z_a G.2.1 36 r_states), (r_Aheld, z_a G.2.1 73 r_held), (r_Ahere, z_a G.2.2.2.2 36 r_here), (r_Athere, z_a G.2.2.2.2 36 r_there)]) [(0, .ref r_o)] 45 [] := by
      intro h_o_r_images_1
      clear hl
      refine z_aload_n C dX6_keep_45 0 rfl ?_
      refine z_dup C rfl dX6_keep_46 ?_
      refine z_get C zf_X6_92 dX6_keep_47 0 rfl rfl ?_
      refine z_iconst C dX6_keep_50 ?_
      obtain ⟨c8, hm⟩ := z_chk_some hm
      refine z_iadd C dX6_keep_51 ?_
      refine z_puti C zf_X6_92 dX6_keep_52 0 rfl rfl (ws' := [(r_o, z_o 6 [.ref r_Atext, z_i r_typed, .ref r_Atold, .ref r_Adraft, .ref r_Abegun, .ref r_As, .ref r_Apast, z_i r_known, .ref r_Aimages, z_i (r_kept + 1), .ref r_Arings, z_i r_rung, z_i r_at, .ref r_Astates, .ref r_Aheld, .ref r_Ahere, .ref r_Athere]), (r_Atext, z_a G.2.1 200 r_text), (r_Atold, z_a G.2.1 39 r_told), (r_Adraft, z_a G.2.1 39 r_draft), (r_Abegun, z_a G.2.1 73 r_begun), (r_As, z_a G.2.1 73 r_s), (r_Apast, z_a G.2.1 584 r_past), (r_Aimages, z_a G.2.1 146 o_r_images_1), (r_Arings, z_a G.2.1 6 r_rings), (r_Astates, z_a G.2.1 36 r_states), (r_Aheld, z_a G.2.1 73 r_held), (r_Ahere, z_a G.2.2.2.2 36 r_here), (r_Athere, z_a G.2.2.2.2 36 r_there)]) rfl ?_
      refine z_aload_n C dX6_keep_55 0 rfl ?_
      refine z_get C zf_X6_92 dX6_keep_56 0 rfl rfl ?_
      cases hm
      exact z_iret C E dX6_keep_59 ⟨rfl, rfl, c8, h_o_r_images_1, c8, trivial⟩
    clear hm
    have L1 : ∀ (n1 : Nat) (v1_1 : Int) (r_images_1 : (Int → Int)), z_n v1_1 → z_r r_images_1 → m_X6_keep_l1 N r_kept r_s n1 v1_1 r_images_1 = some (o_r_images_1) → z_J X 0 0 ([(r_o, z_o 6 [.ref r_Atext, z_i r_typed, .ref r_Atold, .ref r_Adraft, .ref r_Abegun, .ref r_As, .ref r_Apast, z_i r_known, .ref r_Aimages, z_i r_kept, .ref r_Arings, z_i r_rung, z_i r_at, .ref r_Astates, .ref r_Aheld, .ref r_Ahere, .ref r_Athere]), (r_Atext, z_a G.2.1 200 r_text), (r_Atold, z_a G.2.1 39 r_told), (r_Adraft, z_a G.2.1 39 r_draft), (r_Abegun, z_a G.2.1 73 r_begun), (r_As, z_a G.2.1 73 r_s), (r_Apast, z_a G.2.1 584 r_past), (r_Aimages, z_a G.2.1 146 r_images_1), (r_Arings, z_a G.2.1 6 r_rings), (r_Astates, z_a G.2.1 36 r_states), (r_Aheld, z_a G.2.1 73 r_held), (r_Ahere, z_a G.2.2.2.2 36 r_here), (r_Athere, z_a G.2.2.2.2 36 r_there)]) [(0, .ref r_o), (1, z_i v1_1)] 13 [] := by
      clear hl
      intro n1
      induction n1 with
      | zero =>
        intro v1_1 r_images_1 h_v1_1 h_r_images_1 hm
        rw [m_X6_keep_l1] at hm
        cases hm
      | succ n1 ih1 =>
        intro v1_1 r_images_1 h_v1_1 h_r_images_1 hm
        rw [m_X6_keep_l1] at hm
        refine z_iload_n C dX6_keep_13 1 rfl ?_
        refine z_bipush C dX6_keep_14 (by decide) ?_
        refine z_icmp_ge (tgt := 45) C h_v1_1 (z_k 73 rfl) dX6_keep_16 (by decide) (fun c2 => ?_) (fun c2 => ?_)
        · have hm := z_pos c2 hm
          refine z_sub (L' := [(0, .ref r_o)]) [0] rfl ?_
          cases hm
          exact JX1 h_r_images_1
        · have hm := z_neg c2 hm
          refine z_aload_n C dX6_keep_19 0 rfl ?_
          refine z_get C zf_X6_28 dX6_keep_20 0 rfl rfl ?_
          refine z_bipush C dX6_keep_23 (by decide) ?_
          refine z_aload_n C dX6_keep_25 0 rfl ?_
          refine z_get C zf_X6_92 dX6_keep_26 0 rfl rfl ?_
          obtain ⟨c3, hm⟩ := z_chk_some hm
          refine z_imul C dX6_keep_29 ?_
          refine z_iload_n C dX6_keep_30 1 rfl ?_
          obtain ⟨c4, hm⟩ := z_chk_some hm
          refine z_iadd C dX6_keep_31 ?_
          refine z_aload_n C dX6_keep_32 0 rfl ?_
          refine z_get C zf_X6_22 dX6_keep_33 0 rfl rfl ?_
          refine z_iload_n C dX6_keep_36 1 rfl ?_
          obtain ⟨c5, hm⟩ := z_chk_some hm
          refine z_iald C dX6_keep_37 5 rfl c5 h_v1_1 ?_
          obtain ⟨c6, hm⟩ := z_chk_some hm
          refine z_iast C dX6_keep_38 7 rfl c6 c4 (ws' := [(r_o, z_o 6 [.ref r_Atext, z_i r_typed, .ref r_Atold, .ref r_Adraft, .ref r_Abegun, .ref r_As, .ref r_Apast, z_i r_known, .ref r_Aimages, z_i r_kept, .ref r_Arings, z_i r_rung, z_i r_at, .ref r_Astates, .ref r_Aheld, .ref r_Ahere, .ref r_Athere]), (r_Atext, z_a G.2.1 200 r_text), (r_Atold, z_a G.2.1 39 r_told), (r_Adraft, z_a G.2.1 39 r_draft), (r_Abegun, z_a G.2.1 73 r_begun), (r_As, z_a G.2.1 73 r_s), (r_Apast, z_a G.2.1 584 r_past), (r_Aimages, z_a G.2.1 146 (z_up r_images_1 ((73 * r_kept) + v1_1) (r_s v1_1))), (r_Arings, z_a G.2.1 6 r_rings), (r_Astates, z_a G.2.1 36 r_states), (r_Aheld, z_a G.2.1 73 r_held), (r_Ahere, z_a G.2.2.2.2 36 r_here), (r_Athere, z_a G.2.2.2.2 36 r_there)]) rfl ?_
          obtain ⟨c7, hm⟩ := z_chk_some hm
          refine z_iinc C dX6_keep_39 1 rfl (by decide) (L' := [(1, z_i (v1_1 + 1)), (0, .ref r_o)]) rfl ?_
          refine z_goto (tgt := 13) C dX6_keep_42 (by decide) ?_
          refine z_sub (L' := [(0, .ref r_o), (1, z_i (v1_1 + 1))]) [1, 0] rfl ?_
          exact ih1 (v1_1 + 1) (z_up r_images_1 ((73 * r_kept) + v1_1) (r_s v1_1)) c7 (z_r_up h_r_images_1 (h_r_s _)) hm
    refine z_sub (L' := [(0, .ref r_o), (1, z_i 0)]) [1, 0] rfl ?_
    exact L1 N 0 r_images (z_k 0 rfl) h_r_images hl
  · have hm := z_neg c1 hm
    refine z_bipush C dX6_keep_8 (by decide) ?_
    cases hm
    exact z_iret C E dX6_keep_10 ⟨rfl, rfl, (z_k (-3) rfl), h_r_images, h_r_kept, trivial⟩
set_option maxRecDepth 100000 in
theorem k_X6_back (l : Launch) (G : z_G) (N : Nat) (r_o r_Atext r_Atold r_Adraft r_Abegun r_As r_Apast r_Aimages r_Arings r_Astates r_Aheld r_Ahere r_Athere : Nat) (r_text : (Int → Int)) (r_typed : Int) (r_told : (Int → Int)) (r_draft : (Int → Int)) (r_begun : (Int → Int)) (r_s : (Int → Int)) (r_past : (Int → Int)) (r_known : Int) (r_images : (Int → Int)) (r_kept : Int) (r_rings : (Int → Int)) (r_rung : Int) (r_at : Int) (r_states : (Int → Int)) (r_held : (Int → Int)) (r_here : (Int → Int)) (r_there : (Int → Int)) (h_r_text : z_r r_text) (h_r_typed : z_n r_typed) (h_r_told : z_r r_told) (h_r_draft : z_r r_draft) (h_r_begun : z_r r_begun) (h_r_s : z_r r_s) (h_r_past : z_r r_past) (h_r_known : z_n r_known) (h_r_images : z_r r_images) (h_r_kept : z_n r_kept) (h_r_rings : z_r r_rings) (h_r_rung : z_n r_rung) (h_r_at : z_n r_at) (h_r_states : z_r r_states) (h_r_held : z_r r_held) (h_r_here : z_r r_here) (h_r_there : z_r r_there) (rr : Int) (q_r_s : (Int → Int)) (q_r_known : Int) (q_r_kept : Int) (hm : m_X6_back N r_s r_known r_images r_kept = some (rr, q_r_s, q_r_known, q_r_kept)) : z_M l G yX6_back cX6_back 2 (some .int) (k2_rm 0 0) [.ref r_o] ([(r_o, z_o 6 [.ref r_Atext, z_i r_typed, .ref r_Atold, .ref r_Adraft, .ref r_Abegun, .ref r_As, .ref r_Apast, z_i r_known, .ref r_Aimages, z_i r_kept, .ref r_Arings, z_i r_rung, z_i r_at, .ref r_Astates, .ref r_Aheld, .ref r_Ahere, .ref r_Athere]), (r_Atext, z_a G.2.1 200 r_text), (r_Atold, z_a G.2.1 39 r_told), (r_Adraft, z_a G.2.1 39 r_draft), (r_Abegun, z_a G.2.1 73 r_begun), (r_As, z_a G.2.1 73 r_s), (r_Apast, z_a G.2.1 584 r_past), (r_Aimages, z_a G.2.1 146 r_images), (r_Arings, z_a G.2.1 6 r_rings), (r_Astates, z_a G.2.1 36 r_states), (r_Aheld, z_a G.2.1 73 r_held), (r_Ahere, z_a G.2.2.2.2 36 r_here), (r_Athere, z_a G.2.2.2.2 36 r_there)]) 0 0 (fun v w => v = some (z_i rr) ∧ w = [(r_o, z_o 6 [.ref r_Atext, z_i r_typed, .ref r_Atold, .ref r_Adraft, .ref r_Abegun, .ref r_As, .ref r_Apast, z_i q_r_known, .ref r_Aimages, z_i q_r_kept, .ref r_Arings, z_i r_rung, z_i r_at, .ref r_Astates, .ref r_Aheld, .ref r_Ahere, .ref r_Athere]), (r_Atext, z_a G.2.1 200 r_text), (r_Atold, z_a G.2.1 39 r_told), (r_Adraft, z_a G.2.1 39 r_draft), (r_Abegun, z_a G.2.1 73 r_begun), (r_As, z_a G.2.1 73 q_r_s), (r_Apast, z_a G.2.1 584 r_past), (r_Aimages, z_a G.2.1 146 r_images), (r_Arings, z_a G.2.1 6 r_rings), (r_Astates, z_a G.2.1 36 r_states), (r_Aheld, z_a G.2.1 73 r_held), (r_Ahere, z_a G.2.2.2.2 36 r_here), (r_Athere, z_a G.2.2.2.2 36 r_there)] ∧ z_n rr ∧ z_r q_r_s ∧ z_n q_r_known ∧ z_n q_r_kept ∧ True) := by
  unfold m_X6_back at hm
  refine z_M.intro (by decide +kernel) (Nat.le_of_ble_eq_true rfl) (L := [(0, .ref r_o)]) rfl (fun X C E => ?_)
  refine z_aload_n C dX6_back_0 0 rfl ?_
  refine z_get C zf_X6_92 dX6_back_1 0 rfl rfl ?_
  refine z_if_ne (tgt := 10) C h_r_kept dX6_back_4 (by decide) (fun c1 => ?_) (fun c1 => ?_)
  · have hm := z_pos c1 hm
    refine z_aload_n C dX6_back_10 0 rfl ?_
    refine z_dup C rfl dX6_back_11 ?_
    refine z_get C zf_X6_92 dX6_back_12 0 rfl rfl ?_
    refine z_iconst C dX6_back_15 ?_
    obtain ⟨c2, hm⟩ := z_chk_some hm
    refine z_isub C dX6_back_16 ?_
    refine z_puti C zf_X6_92 dX6_back_17 0 rfl rfl (ws' := [(r_o, z_o 6 [.ref r_Atext, z_i r_typed, .ref r_Atold, .ref r_Adraft, .ref r_Abegun, .ref r_As, .ref r_Apast, z_i r_known, .ref r_Aimages, z_i (r_kept - 1), .ref r_Arings, z_i r_rung, z_i r_at, .ref r_Astates, .ref r_Aheld, .ref r_Ahere, .ref r_Athere]), (r_Atext, z_a G.2.1 200 r_text), (r_Atold, z_a G.2.1 39 r_told), (r_Adraft, z_a G.2.1 39 r_draft), (r_Abegun, z_a G.2.1 73 r_begun), (r_As, z_a G.2.1 73 r_s), (r_Apast, z_a G.2.1 584 r_past), (r_Aimages, z_a G.2.1 146 r_images), (r_Arings, z_a G.2.1 6 r_rings), (r_Astates, z_a G.2.1 36 r_states), (r_Aheld, z_a G.2.1 73 r_held), (r_Ahere, z_a G.2.2.2.2 36 r_here), (r_Athere, z_a G.2.2.2.2 36 r_there)]) rfl ?_
    refine z_iconst C dX6_back_20 ?_
    refine z_istore_n C dX6_back_21 (by decide) (L' := [(1, z_i 0), (0, .ref r_o)]) rfl ?_
    obtain ⟨o_r_s_1, hl, hm⟩ := z_b1s hm
    have JX1 : z_r o_r_s_1 → z_J X 0 0 ([(r_o, z_o 6 [.ref r_Atext, z_i r_typed, .ref r_Atold, .ref r_Adraft, .ref r_Abegun, .ref r_As, .ref r_Apast, z_i r_known, .ref r_Aimages, z_i (r_kept - 1), .ref r_Arings, z_i r_rung, z_i r_at, .ref r_Astates, .ref r_Aheld, .ref r_Ahere, .ref r_Athere]), (r_Atext, z_a G.2.1 200 r_text), (r_Atold, z_a G.2.1 39 r_told), (r_Adraft, z_a G.2.1 39 r_draft), (r_Abegun, z_a G.2.1 73 r_begun), (r_As, z_a G.2.1 73 o_r_s_1), (r_Apast, z_a G.2.1 584 r_past), (r_Aimages, z_a G.2.1 146 r_images), (r_Arings, z_a G.2.1 6 r_rings), (r_Astates, z_a G.2.1 36 r_states), (r_Aheld, z_a G.2.1 73 r_held), (r_Ahere, z_a G.2.2.2.2 36 r_here), (r_Athere, z_a G.2.2.2.2 36 r_there)]) [(0, .ref r_o)] 54 [] := by
      intro h_o_r_s_1
      clear hl
      refine z_aload_n C dX6_back_54 0 rfl ?_
      refine z_iconst C dX6_back_55 ?_
      refine z_puti C zf_X6_89 dX6_back_56 0 rfl rfl (ws' := [(r_o, z_o 6 [.ref r_Atext, z_i r_typed, .ref r_Atold, .ref r_Adraft, .ref r_Abegun, .ref r_As, .ref r_Apast, z_i 0, .ref r_Aimages, z_i (r_kept - 1), .ref r_Arings, z_i r_rung, z_i r_at, .ref r_Astates, .ref r_Aheld, .ref r_Ahere, .ref r_Athere]), (r_Atext, z_a G.2.1 200 r_text), (r_Atold, z_a G.2.1 39 r_told), (r_Adraft, z_a G.2.1 39 r_draft), (r_Abegun, z_a G.2.1 73 r_begun), (r_As, z_a G.2.1 73 o_r_s_1), (r_Apast, z_a G.2.1 584 r_past), (r_Aimages, z_a G.2.1 146 r_images), (r_Arings, z_a G.2.1 6 r_rings), (r_Astates, z_a G.2.1 36 r_states), (r_Aheld, z_a G.2.1 73 r_held), (r_Ahere, z_a G.2.2.2.2 36 r_here), (r_Athere, z_a G.2.2.2.2 36 r_there)]) rfl ?_
      refine z_aload_n C dX6_back_59 0 rfl ?_
      refine z_get C zf_X6_92 dX6_back_60 0 rfl rfl ?_
      cases hm
      exact z_iret C E dX6_back_63 ⟨rfl, rfl, c2, h_o_r_s_1, (z_k 0 rfl), c2, trivial⟩
    clear hm
    have L1 : ∀ (n1 : Nat) (v1_1 : Int) (r_s_1 : (Int → Int)), z_n v1_1 → z_r r_s_1 → m_X6_back_l1 N (r_kept - 1) r_images n1 v1_1 r_s_1 = some (o_r_s_1) → z_J X 0 0 ([(r_o, z_o 6 [.ref r_Atext, z_i r_typed, .ref r_Atold, .ref r_Adraft, .ref r_Abegun, .ref r_As, .ref r_Apast, z_i r_known, .ref r_Aimages, z_i (r_kept - 1), .ref r_Arings, z_i r_rung, z_i r_at, .ref r_Astates, .ref r_Aheld, .ref r_Ahere, .ref r_Athere]), (r_Atext, z_a G.2.1 200 r_text), (r_Atold, z_a G.2.1 39 r_told), (r_Adraft, z_a G.2.1 39 r_draft), (r_Abegun, z_a G.2.1 73 r_begun), (r_As, z_a G.2.1 73 r_s_1), (r_Apast, z_a G.2.1 584 r_past), (r_Aimages, z_a G.2.1 146 r_images), (r_Arings, z_a G.2.1 6 r_rings), (r_Astates, z_a G.2.1 36 r_states), (r_Aheld, z_a G.2.1 73 r_held), (r_Ahere, z_a G.2.2.2.2 36 r_here), (r_Athere, z_a G.2.2.2.2 36 r_there)]) [(0, .ref r_o), (1, z_i v1_1)] 22 [] := by
      clear hl
      intro n1
      induction n1 with
      | zero =>
        intro v1_1 r_s_1 h_v1_1 h_r_s_1 hm
        rw [m_X6_back_l1] at hm
        cases hm
      | succ n1 ih1 =>
        intro v1_1 r_s_1 h_v1_1 h_r_s_1 hm
        rw [m_X6_back_l1] at hm
        refine z_iload_n C dX6_back_22 1 rfl ?_
        refine z_bipush C dX6_back_23 (by decide) ?_
        refine z_icmp_ge (tgt := 54) C h_v1_1 (z_k 73 rfl) dX6_back_25 (by decide) (fun c3 => ?_) (fun c3 => ?_)
        · have hm := z_pos c3 hm
          refine z_sub (L' := [(0, .ref r_o)]) [0] rfl ?_
          cases hm
          exact JX1 h_r_s_1
        · have hm := z_neg c3 hm
          refine z_aload_n C dX6_back_28 0 rfl ?_
          refine z_get C zf_X6_22 dX6_back_29 0 rfl rfl ?_
          refine z_iload_n C dX6_back_32 1 rfl ?_
          refine z_aload_n C dX6_back_33 0 rfl ?_
          refine z_get C zf_X6_28 dX6_back_34 0 rfl rfl ?_
          refine z_bipush C dX6_back_37 (by decide) ?_
          refine z_aload_n C dX6_back_39 0 rfl ?_
          refine z_get C zf_X6_92 dX6_back_40 0 rfl rfl ?_
          obtain ⟨c4, hm⟩ := z_chk_some hm
          refine z_imul C dX6_back_43 ?_
          refine z_iload_n C dX6_back_44 1 rfl ?_
          obtain ⟨c5, hm⟩ := z_chk_some hm
          refine z_iadd C dX6_back_45 ?_
          obtain ⟨c6, hm⟩ := z_chk_some hm
          refine z_iald C dX6_back_46 7 rfl c6 c5 ?_
          obtain ⟨c7, hm⟩ := z_chk_some hm
          refine z_iast C dX6_back_47 5 rfl c7 h_v1_1 (ws' := [(r_o, z_o 6 [.ref r_Atext, z_i r_typed, .ref r_Atold, .ref r_Adraft, .ref r_Abegun, .ref r_As, .ref r_Apast, z_i r_known, .ref r_Aimages, z_i (r_kept - 1), .ref r_Arings, z_i r_rung, z_i r_at, .ref r_Astates, .ref r_Aheld, .ref r_Ahere, .ref r_Athere]), (r_Atext, z_a G.2.1 200 r_text), (r_Atold, z_a G.2.1 39 r_told), (r_Adraft, z_a G.2.1 39 r_draft), (r_Abegun, z_a G.2.1 73 r_begun), (r_As, z_a G.2.1 73 (z_up r_s_1 v1_1 (r_images ((73 * (r_kept - 1)) + v1_1)))), (r_Apast, z_a G.2.1 584 r_past), (r_Aimages, z_a G.2.1 146 r_images), (r_Arings, z_a G.2.1 6 r_rings), (r_Astates, z_a G.2.1 36 r_states), (r_Aheld, z_a G.2.1 73 r_held), (r_Ahere, z_a G.2.2.2.2 36 r_here), (r_Athere, z_a G.2.2.2.2 36 r_there)]) rfl ?_
          obtain ⟨c8, hm⟩ := z_chk_some hm
          refine z_iinc C dX6_back_48 1 rfl (by decide) (L' := [(1, z_i (v1_1 + 1)), (0, .ref r_o)]) rfl ?_
          refine z_goto (tgt := 22) C dX6_back_51 (by decide) ?_
          refine z_sub (L' := [(0, .ref r_o), (1, z_i (v1_1 + 1))]) [1, 0] rfl ?_
          exact ih1 (v1_1 + 1) (z_up r_s_1 v1_1 (r_images ((73 * (r_kept - 1)) + v1_1))) c8 (z_r_up h_r_s_1 (h_r_images _)) hm
    refine z_sub (L' := [(0, .ref r_o), (1, z_i 0)]) [1, 0] rfl ?_
    exact L1 N 0 r_s (z_k 0 rfl) h_r_s hl
  · have hm := z_neg c1 hm
    refine z_bipush C dX6_back_7 (by decide) ?_
    cases hm
    exact z_iret C E dX6_back_9 ⟨rfl, rfl, (z_k (-2) rfl), h_r_s, h_r_known, h_r_kept, trivial⟩
set_option maxRecDepth 100000 in
theorem k_X6_count (l : Launch) (G : z_G) (N : Nat) (r_o r_Atext r_Atold r_Adraft r_Abegun r_As r_Apast r_Aimages r_Arings r_Astates r_Aheld r_Ahere r_Athere : Nat) (r_text : (Int → Int)) (r_typed : Int) (r_told : (Int → Int)) (r_draft : (Int → Int)) (r_begun : (Int → Int)) (r_s : (Int → Int)) (r_past : (Int → Int)) (r_known : Int) (r_images : (Int → Int)) (r_kept : Int) (r_rings : (Int → Int)) (r_rung : Int) (r_at : Int) (r_states : (Int → Int)) (r_held : (Int → Int)) (r_here : (Int → Int)) (r_there : (Int → Int)) (x1 : Int) (h_r_text : z_r r_text) (h_r_typed : z_n r_typed) (h_r_told : z_r r_told) (h_r_draft : z_r r_draft) (h_r_begun : z_r r_begun) (h_r_s : z_r r_s) (h_r_past : z_r r_past) (h_r_known : z_n r_known) (h_r_images : z_r r_images) (h_r_kept : z_n r_kept) (h_r_rings : z_r r_rings) (h_r_rung : z_n r_rung) (h_r_at : z_n r_at) (h_r_states : z_r r_states) (h_r_held : z_r r_held) (h_r_here : z_r r_here) (h_r_there : z_r r_there) (h_x1 : z_n x1) (rr : Int) (q_r_states : (Int → Int)) (hm : m_X6_count N r_typed r_told r_s r_known r_kept r_rung r_states x1 = some (rr, q_r_states)) : z_M l G yX6_count cX6_count 2 (some .int) (k2_rm 5 114) [.ref r_o, z_i x1] ([(r_o, z_o 6 [.ref r_Atext, z_i r_typed, .ref r_Atold, .ref r_Adraft, .ref r_Abegun, .ref r_As, .ref r_Apast, z_i r_known, .ref r_Aimages, z_i r_kept, .ref r_Arings, z_i r_rung, z_i r_at, .ref r_Astates, .ref r_Aheld, .ref r_Ahere, .ref r_Athere]), (r_Atext, z_a G.2.1 200 r_text), (r_Atold, z_a G.2.1 39 r_told), (r_Adraft, z_a G.2.1 39 r_draft), (r_Abegun, z_a G.2.1 73 r_begun), (r_As, z_a G.2.1 73 r_s), (r_Apast, z_a G.2.1 584 r_past), (r_Aimages, z_a G.2.1 146 r_images), (r_Arings, z_a G.2.1 6 r_rings), (r_Astates, z_a G.2.1 36 r_states), (r_Aheld, z_a G.2.1 73 r_held), (r_Ahere, z_a G.2.2.2.2 36 r_here), (r_Athere, z_a G.2.2.2.2 36 r_there)]) 0 0 (fun v w => v = some (z_i rr) ∧ w = [(r_o, z_o 6 [.ref r_Atext, z_i r_typed, .ref r_Atold, .ref r_Adraft, .ref r_Abegun, .ref r_As, .ref r_Apast, z_i r_known, .ref r_Aimages, z_i r_kept, .ref r_Arings, z_i r_rung, z_i r_at, .ref r_Astates, .ref r_Aheld, .ref r_Ahere, .ref r_Athere]), (r_Atext, z_a G.2.1 200 r_text), (r_Atold, z_a G.2.1 39 r_told), (r_Adraft, z_a G.2.1 39 r_draft), (r_Abegun, z_a G.2.1 73 r_begun), (r_As, z_a G.2.1 73 r_s), (r_Apast, z_a G.2.1 584 r_past), (r_Aimages, z_a G.2.1 146 r_images), (r_Arings, z_a G.2.1 6 r_rings), (r_Astates, z_a G.2.1 36 q_r_states), (r_Aheld, z_a G.2.1 73 r_held), (r_Ahere, z_a G.2.2.2.2 36 r_here), (r_Athere, z_a G.2.2.2.2 36 r_there)] ∧ z_n rr ∧ z_r q_r_states ∧ True) := by
  unfold m_X6_count at hm
  refine z_M.intro (by decide +kernel) (Nat.le_of_ble_eq_true rfl) (L := [(0, .ref r_o), (1, z_i x1)]) rfl (fun X C E => ?_)
  refine z_iload_n C dX6_count_0 1 rfl ?_
  rcases z_ite hm with ⟨cs1_0, hm⟩ | ⟨cs1_0, hm⟩
  · refine z_tabIn (tgt := 56) C h_x1 dX6_count_1 0 cs1_0 (by decide) rfl (by decide) ?_
    refine z_aload_n C dX6_count_56 0 rfl ?_
    obtain ⟨r1, k2, hm⟩ := z_b1s hm
    refine z_callVid C (k_X6_cells l G N r_o r_Atext r_Atold r_Adraft r_Abegun r_As r_Apast r_Aimages r_Arings r_Astates r_Aheld r_Ahere r_Athere r_text r_typed r_told r_draft r_begun r_s r_past r_known r_images r_kept r_rings r_rung r_at r_states r_held r_here r_there h_r_text h_r_typed h_r_told h_r_draft h_r_begun h_r_s h_r_past h_r_known h_r_images h_r_kept h_r_rings h_r_rung h_r_at h_r_states h_r_held h_r_here h_r_there r1 k2) zv_X6_cells zl_X6_53 dX6_count_57 rfl 0 rfl rfl rfl [] rfl (Nat.le_of_ble_eq_true rfl) ⟨Nat.le_of_ble_eq_true rfl, Nat.le_of_ble_eq_true rfl⟩ ⟨rfl, rfl⟩ ⟨Nat.zero_le _, Nat.zero_le _⟩ (fun hF => ?_)
    obtain ⟨h_r1, -⟩ := hF
    cases hm
    exact z_iret C E dX6_count_60 ⟨rfl, rfl, h_r1, h_r_states, trivial⟩
  · rcases z_ite hm with ⟨cs1_1, hm⟩ | ⟨cs1_1, hm⟩
    · refine z_tabIn (tgt := 61) C h_x1 dX6_count_1 1 cs1_1 (by decide) rfl (by decide) ?_
      refine z_aload_n C dX6_count_61 0 rfl ?_
      refine z_get C zf_X6_13 dX6_count_62 0 rfl rfl ?_
      refine z_iconst C dX6_count_65 ?_
      obtain ⟨c3, hm⟩ := z_chk_some hm
      refine z_iald C dX6_count_66 2 rfl c3 (z_k 0 rfl) ?_
      cases hm
      exact z_iret C E dX6_count_67 ⟨rfl, rfl, (h_r_told _), h_r_states, trivial⟩
    · rcases z_ite hm with ⟨cs1_2, hm⟩ | ⟨cs1_2, hm⟩
      · refine z_tabIn (tgt := 68) C h_x1 dX6_count_1 2 cs1_2 (by decide) rfl (by decide) ?_
        refine z_aload_n C dX6_count_68 0 rfl ?_
        obtain ⟨r4, k5, hm⟩ := z_b1s hm
        refine z_callVid C (k_X6_wet l G N r_o r_Atext r_Atold r_Adraft r_Abegun r_As r_Apast r_Aimages r_Arings r_Astates r_Aheld r_Ahere r_Athere r_text r_typed r_told r_draft r_begun r_s r_past r_known r_images r_kept r_rings r_rung r_at r_states r_held r_here r_there h_r_text h_r_typed h_r_told h_r_draft h_r_begun h_r_s h_r_past h_r_known h_r_images h_r_kept h_r_rings h_r_rung h_r_at h_r_states h_r_held h_r_here h_r_there r4 k5) zv_X6_wet zl_X6_153 dX6_count_69 rfl 0 rfl rfl rfl [] rfl (Nat.le_of_ble_eq_true rfl) ⟨Nat.le_of_ble_eq_true rfl, Nat.le_of_ble_eq_true rfl⟩ ⟨rfl, rfl⟩ ⟨Nat.zero_le _, Nat.zero_le _⟩ (fun hF => ?_)
        obtain ⟨h_r4, -⟩ := hF
        cases hm
        exact z_iret C E dX6_count_72 ⟨rfl, rfl, h_r4, h_r_states, trivial⟩
      · rcases z_ite hm with ⟨cs1_3, hm⟩ | ⟨cs1_3, hm⟩
        · refine z_tabIn (tgt := 73) C h_x1 dX6_count_1 3 cs1_3 (by decide) rfl (by decide) ?_
          refine z_aload_n C dX6_count_73 0 rfl ?_
          obtain ⟨r6, r_states_7, k8, hm⟩ := z_b2s hm
          refine z_callVid C (k_X6_manyStates l G N r_o r_Atext r_Atold r_Adraft r_Abegun r_As r_Apast r_Aimages r_Arings r_Astates r_Aheld r_Ahere r_Athere r_text r_typed r_told r_draft r_begun r_s r_past r_known r_images r_kept r_rings r_rung r_at r_states r_held r_here r_there h_r_text h_r_typed h_r_told h_r_draft h_r_begun h_r_s h_r_past h_r_known h_r_images h_r_kept h_r_rings h_r_rung h_r_at h_r_states h_r_held h_r_here h_r_there r6 r_states_7 k8) zv_X6_manyStates zl_X6_165 dX6_count_74 rfl 0 rfl rfl rfl [] rfl (Nat.le_of_ble_eq_true rfl) ⟨Nat.le_of_ble_eq_true rfl, Nat.le_of_ble_eq_true rfl⟩ ⟨rfl, rfl⟩ ⟨Nat.zero_le _, Nat.zero_le _⟩ (fun hF => ?_)
          obtain ⟨h_r6, h_r_states_7, -⟩ := hF
          cases hm
          exact z_iret C E dX6_count_77 ⟨rfl, rfl, h_r6, h_r_states_7, trivial⟩
        · rcases z_ite hm with ⟨cs1_4, hm⟩ | ⟨cs1_4, hm⟩
          · refine z_tabIn (tgt := 78) C h_x1 dX6_count_1 4 cs1_4 (by decide) rfl (by decide) ?_
            refine z_aload_n C dX6_count_78 0 rfl ?_
            obtain ⟨r9, k10, hm⟩ := z_b1s hm
            refine z_callVid C (k_X6_all l G N r_o r_Atext r_Atold r_Adraft r_Abegun r_As r_Apast r_Aimages r_Arings r_Astates r_Aheld r_Ahere r_Athere r_text r_typed r_told r_draft r_begun r_s r_past r_known r_images r_kept r_rings r_rung r_at r_states r_held r_here r_there h_r_text h_r_typed h_r_told h_r_draft h_r_begun h_r_s h_r_past h_r_known h_r_images h_r_kept h_r_rings h_r_rung h_r_at h_r_states h_r_held h_r_here h_r_there r9 k10) zv_X6_all zl_X6_131 dX6_count_79 rfl 0 rfl rfl rfl [] rfl (Nat.le_of_ble_eq_true rfl) ⟨Nat.le_of_ble_eq_true rfl, Nat.le_of_ble_eq_true rfl⟩ ⟨rfl, rfl⟩ ⟨Nat.zero_le _, Nat.zero_le _⟩ (fun hF => ?_)
            obtain ⟨h_r9, -⟩ := hF
            cases hm
            exact z_iret C E dX6_count_82 ⟨rfl, rfl, h_r9, h_r_states, trivial⟩
          · rcases z_ite hm with ⟨cs1_5, hm⟩ | ⟨cs1_5, hm⟩
            · refine z_tabIn (tgt := 83) C h_x1 dX6_count_1 5 cs1_5 (by decide) rfl (by decide) ?_
              refine z_aload_n C dX6_count_83 0 rfl ?_
              refine z_get C zf_X6_22 dX6_count_84 0 rfl rfl ?_
              refine z_bipush C dX6_count_87 (by decide) ?_
              obtain ⟨c11, hm⟩ := z_chk_some hm
              refine z_iald C dX6_count_89 5 rfl c11 (z_k 72 rfl) ?_
              cases hm
              exact z_iret C E dX6_count_90 ⟨rfl, rfl, (h_r_s _), h_r_states, trivial⟩
            · rcases z_ite hm with ⟨cs1_6, hm⟩ | ⟨cs1_6, hm⟩
              · refine z_tabIn (tgt := 91) C h_x1 dX6_count_1 6 cs1_6 (by decide) rfl (by decide) ?_
                refine z_aload_n C dX6_count_91 0 rfl ?_
                refine z_get C zf_X6_95 dX6_count_92 0 rfl rfl ?_
                cases hm
                exact z_iret C E dX6_count_95 ⟨rfl, rfl, h_r_rung, h_r_states, trivial⟩
              · rcases z_ite hm with ⟨cs1_7, hm⟩ | ⟨cs1_7, hm⟩
                · refine z_tabIn (tgt := 96) C h_x1 dX6_count_1 7 cs1_7 (by decide) rfl (by decide) ?_
                  refine z_aload_n C dX6_count_96 0 rfl ?_
                  refine z_get C zf_X6_89 dX6_count_97 0 rfl rfl ?_
                  cases hm
                  exact z_iret C E dX6_count_100 ⟨rfl, rfl, h_r_known, h_r_states, trivial⟩
                · rcases z_ite hm with ⟨cs1_8, hm⟩ | ⟨cs1_8, hm⟩
                  · refine z_tabIn (tgt := 101) C h_x1 dX6_count_1 8 cs1_8 (by decide) rfl (by decide) ?_
                    refine z_aload_n C dX6_count_101 0 rfl ?_
                    refine z_get C zf_X6_92 dX6_count_102 0 rfl rfl ?_
                    cases hm
                    exact z_iret C E dX6_count_105 ⟨rfl, rfl, h_r_kept, h_r_states, trivial⟩
                  · rcases z_ite hm with ⟨cs1_9, hm⟩ | ⟨cs1_9, hm⟩
                    · refine z_tabIn (tgt := 106) C h_x1 dX6_count_1 9 cs1_9 (by decide) rfl (by decide) ?_
                      refine z_aload_n C dX6_count_106 0 rfl ?_
                      refine z_get C zf_X6_61 dX6_count_107 0 rfl rfl ?_
                      cases hm
                      exact z_iret C E dX6_count_110 ⟨rfl, rfl, h_r_typed, h_r_states, trivial⟩
                    · refine z_tabOut (tgt := 111) C h_x1 dX6_count_1 (by omega) (by decide) ?_
                      refine z_iconst C dX6_count_111 ?_
                      cases hm
                      exact z_iret C E dX6_count_112 ⟨rfl, rfl, (z_k (-1) rfl), h_r_states, trivial⟩
