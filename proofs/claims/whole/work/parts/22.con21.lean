set_option maxRecDepth 100000 in
theorem k_X6_rain (l : Launch) (G : z_G) (N : Nat) (r_o r_Atext r_Atold r_Adraft r_Abegun r_As r_Apast r_Aimages r_Arings r_Astates r_Aheld r_Ahere r_Athere : Nat) (r_text : (Int → Int)) (r_typed : Int) (r_told : (Int → Int)) (r_draft : (Int → Int)) (r_begun : (Int → Int)) (r_s : (Int → Int)) (r_past : (Int → Int)) (r_known : Int) (r_images : (Int → Int)) (r_kept : Int) (r_rings : (Int → Int)) (r_rung : Int) (r_at : Int) (r_states : (Int → Int)) (r_held : (Int → Int)) (r_here : (Int → Int)) (r_there : (Int → Int)) (x1 : Int) (h_r_text : z_r r_text) (h_r_typed : z_n r_typed) (h_r_told : z_r r_told) (h_r_draft : z_r r_draft) (h_r_begun : z_r r_begun) (h_r_s : z_r r_s) (h_r_past : z_r r_past) (h_r_known : z_n r_known) (h_r_images : z_r r_images) (h_r_kept : z_n r_kept) (h_r_rings : z_r r_rings) (h_r_rung : z_n r_rung) (h_r_at : z_n r_at) (h_r_states : z_r r_states) (h_r_held : z_r r_held) (h_r_here : z_r r_here) (h_r_there : z_r r_there) (h_x1 : z_n x1) (rr : Int) (q_r_s : (Int → Int)) (q_r_past : (Int → Int)) (q_r_known : Int) (hm : m_X6_rain N r_told r_s r_past r_known x1 = some (rr, q_r_s, q_r_past, q_r_known)) : z_M l G yX6_rain cX6_rain 2 (some .int) (k2_rm 6 139) [.ref r_o, z_i x1] ([(r_o, z_o 6 [.ref r_Atext, z_i r_typed, .ref r_Atold, .ref r_Adraft, .ref r_Abegun, .ref r_As, .ref r_Apast, z_i r_known, .ref r_Aimages, z_i r_kept, .ref r_Arings, z_i r_rung, z_i r_at, .ref r_Astates, .ref r_Aheld, .ref r_Ahere, .ref r_Athere]), (r_Atext, z_a G.2.1 200 r_text), (r_Atold, z_a G.2.1 39 r_told), (r_Adraft, z_a G.2.1 39 r_draft), (r_Abegun, z_a G.2.1 73 r_begun), (r_As, z_a G.2.1 73 r_s), (r_Apast, z_a G.2.1 584 r_past), (r_Aimages, z_a G.2.1 146 r_images), (r_Arings, z_a G.2.1 6 r_rings), (r_Astates, z_a G.2.1 36 r_states), (r_Aheld, z_a G.2.1 73 r_held), (r_Ahere, z_a G.2.2.2.2 36 r_here), (r_Athere, z_a G.2.2.2.2 36 r_there)]) 0 0 (fun v w => v = some (z_i rr) ∧ w = [(r_o, z_o 6 [.ref r_Atext, z_i r_typed, .ref r_Atold, .ref r_Adraft, .ref r_Abegun, .ref r_As, .ref r_Apast, z_i q_r_known, .ref r_Aimages, z_i r_kept, .ref r_Arings, z_i r_rung, z_i r_at, .ref r_Astates, .ref r_Aheld, .ref r_Ahere, .ref r_Athere]), (r_Atext, z_a G.2.1 200 r_text), (r_Atold, z_a G.2.1 39 r_told), (r_Adraft, z_a G.2.1 39 r_draft), (r_Abegun, z_a G.2.1 73 r_begun), (r_As, z_a G.2.1 73 q_r_s), (r_Apast, z_a G.2.1 584 q_r_past), (r_Aimages, z_a G.2.1 146 r_images), (r_Arings, z_a G.2.1 6 r_rings), (r_Astates, z_a G.2.1 36 r_states), (r_Aheld, z_a G.2.1 73 r_held), (r_Ahere, z_a G.2.2.2.2 36 r_here), (r_Athere, z_a G.2.2.2.2 36 r_there)] ∧ z_n rr ∧ z_r q_r_s ∧ z_r q_r_past ∧ z_n q_r_known ∧ True) := by
  unfold m_X6_rain at hm
  refine z_M.intro (by decide +kernel) (Nat.le_of_ble_eq_true rfl) (L := [(0, .ref r_o), (1, z_i x1)]) rfl (fun X C E => ?_)
  refine z_iload_n C dX6_rain_0 1 rfl ?_
  refine z_iconst C dX6_rain_1 ?_
  refine z_bipush C dX6_rain_2 (by decide) ?_
  obtain ⟨r1, k2, hm⟩ := z_b1s hm
  refine z_callSi C (k_X6_in l G N x1 1 9 h_x1 (z_k 1 rfl) (z_k 9 rfl) r1 k2) zs_X6_in zl_X6_57 dX6_rain_4 [] rfl rfl rfl (ws' := [(r_o, z_o 6 [.ref r_Atext, z_i r_typed, .ref r_Atold, .ref r_Adraft, .ref r_Abegun, .ref r_As, .ref r_Apast, z_i r_known, .ref r_Aimages, z_i r_kept, .ref r_Arings, z_i r_rung, z_i r_at, .ref r_Astates, .ref r_Aheld, .ref r_Ahere, .ref r_Athere]), (r_Atext, z_a G.2.1 200 r_text), (r_Atold, z_a G.2.1 39 r_told), (r_Adraft, z_a G.2.1 39 r_draft), (r_Abegun, z_a G.2.1 73 r_begun), (r_As, z_a G.2.1 73 r_s), (r_Apast, z_a G.2.1 584 r_past), (r_Aimages, z_a G.2.1 146 r_images), (r_Arings, z_a G.2.1 6 r_rings), (r_Astates, z_a G.2.1 36 r_states), (r_Aheld, z_a G.2.1 73 r_held), (r_Ahere, z_a G.2.2.2.2 36 r_here), (r_Athere, z_a G.2.2.2.2 36 r_there)]) rfl rfl [] rfl (Nat.le_of_ble_eq_true rfl) ⟨Nat.le_of_ble_eq_true rfl, Nat.le_of_ble_eq_true rfl⟩ ⟨rfl, rfl⟩ ⟨Nat.zero_le _, Nat.zero_le _⟩ (fun hF => ?_)
  obtain ⟨hb_r1, -⟩ := hF
  refine z_if_ne (tgt := 12) C (z_n01 hb_r1) dX6_rain_7 (by decide) (fun c3 => ?_) (fun c3 => ?_)
  · have hm := z_pos c3 hm
    refine z_aload_n C dX6_rain_12 0 rfl ?_
    obtain ⟨r_past_4, r_known_5, k6, hm⟩ := z_b2s hm
    refine z_callVvd C (k_X6_keeps l G N r_o r_Atext r_Atold r_Adraft r_Abegun r_As r_Apast r_Aimages r_Arings r_Astates r_Aheld r_Ahere r_Athere r_text r_typed r_told r_draft r_begun r_s r_past r_known r_images r_kept r_rings r_rung r_at r_states r_held r_here r_there h_r_text h_r_typed h_r_told h_r_draft h_r_begun h_r_s h_r_past h_r_known h_r_images h_r_kept h_r_rings h_r_rung h_r_at h_r_states h_r_held h_r_here h_r_there r_past_4 r_known_5 k6) zv_X6_keeps zl_X6_124 dX6_rain_13 rfl 0 rfl rfl rfl [] rfl (Nat.le_of_ble_eq_true rfl) ⟨Nat.le_of_ble_eq_true rfl, Nat.le_of_ble_eq_true rfl⟩ ⟨rfl, rfl⟩ ⟨Nat.zero_le _, Nat.zero_le _⟩ (fun hF => ?_)
    obtain ⟨h_r_past_4, h_r_known_5, -⟩ := hF
    refine z_aload_n C dX6_rain_16 0 rfl ?_
    refine z_iload_n C dX6_rain_17 1 rfl ?_
    obtain ⟨r_s_7, k8, hm⟩ := z_b1s hm
    refine z_callVvd C (k_X6_pours l G N r_o r_Atext r_Atold r_Adraft r_Abegun r_As r_Apast r_Aimages r_Arings r_Astates r_Aheld r_Ahere r_Athere r_text r_typed r_told r_draft r_begun r_s r_past_4 r_known_5 r_images r_kept r_rings r_rung r_at r_states r_held r_here r_there x1 h_r_text h_r_typed h_r_told h_r_draft h_r_begun h_r_s h_r_past_4 h_r_known_5 h_r_images h_r_kept h_r_rings h_r_rung h_r_at h_r_states h_r_held h_r_here h_r_there h_x1 r_s_7 k8) zv_X6_pours zl_X6_127 dX6_rain_18 rfl 0 rfl rfl rfl [] rfl (Nat.le_of_ble_eq_true rfl) ⟨Nat.le_of_ble_eq_true rfl, Nat.le_of_ble_eq_true rfl⟩ ⟨rfl, rfl⟩ ⟨Nat.zero_le _, Nat.zero_le _⟩ (fun hF => ?_)
    obtain ⟨h_r_s_7, -⟩ := hF
    refine z_aload_n C dX6_rain_21 0 rfl ?_
    obtain ⟨r9, k10, hm⟩ := z_b1s hm
    refine z_callVid C (k_X6_all l G N r_o r_Atext r_Atold r_Adraft r_Abegun r_As r_Apast r_Aimages r_Arings r_Astates r_Aheld r_Ahere r_Athere r_text r_typed r_told r_draft r_begun r_s_7 r_past_4 r_known_5 r_images r_kept r_rings r_rung r_at r_states r_held r_here r_there h_r_text h_r_typed h_r_told h_r_draft h_r_begun h_r_s_7 h_r_past_4 h_r_known_5 h_r_images h_r_kept h_r_rings h_r_rung h_r_at h_r_states h_r_held h_r_here h_r_there r9 k10) zv_X6_all zl_X6_131 dX6_rain_22 rfl 0 rfl rfl rfl [] rfl (Nat.le_of_ble_eq_true rfl) ⟨Nat.le_of_ble_eq_true rfl, Nat.le_of_ble_eq_true rfl⟩ ⟨rfl, rfl⟩ ⟨Nat.zero_le _, Nat.zero_le _⟩ (fun hF => ?_)
    obtain ⟨h_r9, -⟩ := hF
    cases hm
    exact z_iret C E dX6_rain_25 ⟨rfl, rfl, h_r9, h_r_s_7, h_r_past_4, h_r_known_5, trivial⟩
  · have hm := z_neg c3 hm
    refine z_iconst C dX6_rain_10 ?_
    cases hm
    exact z_iret C E dX6_rain_11 ⟨rfl, rfl, (z_k (-1) rfl), h_r_s, h_r_past, h_r_known, trivial⟩
set_option maxRecDepth 100000 in
theorem k_X6_shines (l : Launch) (G : z_G) (N : Nat) (r_o r_Atext r_Atold r_Adraft r_Abegun r_As r_Apast r_Aimages r_Arings r_Astates r_Aheld r_Ahere r_Athere : Nat) (r_text : (Int → Int)) (r_typed : Int) (r_told : (Int → Int)) (r_draft : (Int → Int)) (r_begun : (Int → Int)) (r_s : (Int → Int)) (r_past : (Int → Int)) (r_known : Int) (r_images : (Int → Int)) (r_kept : Int) (r_rings : (Int → Int)) (r_rung : Int) (r_at : Int) (r_states : (Int → Int)) (r_held : (Int → Int)) (r_here : (Int → Int)) (r_there : (Int → Int)) (h_r_text : z_r r_text) (h_r_typed : z_n r_typed) (h_r_told : z_r r_told) (h_r_draft : z_r r_draft) (h_r_begun : z_r r_begun) (h_r_s : z_r r_s) (h_r_past : z_r r_past) (h_r_known : z_n r_known) (h_r_images : z_r r_images) (h_r_kept : z_n r_kept) (h_r_rings : z_r r_rings) (h_r_rung : z_n r_rung) (h_r_at : z_n r_at) (h_r_states : z_r r_states) (h_r_held : z_r r_held) (h_r_here : z_r r_here) (h_r_there : z_r r_there) (q_r_s : (Int → Int)) (hm : m_X6_shines N r_told r_s = some (q_r_s)) : z_M l G yX6_shines cX6_shines 3 none (k2_rm 5 117) [.ref r_o] ([(r_o, z_o 6 [.ref r_Atext, z_i r_typed, .ref r_Atold, .ref r_Adraft, .ref r_Abegun, .ref r_As, .ref r_Apast, z_i r_known, .ref r_Aimages, z_i r_kept, .ref r_Arings, z_i r_rung, z_i r_at, .ref r_Astates, .ref r_Aheld, .ref r_Ahere, .ref r_Athere]), (r_Atext, z_a G.2.1 200 r_text), (r_Atold, z_a G.2.1 39 r_told), (r_Adraft, z_a G.2.1 39 r_draft), (r_Abegun, z_a G.2.1 73 r_begun), (r_As, z_a G.2.1 73 r_s), (r_Apast, z_a G.2.1 584 r_past), (r_Aimages, z_a G.2.1 146 r_images), (r_Arings, z_a G.2.1 6 r_rings), (r_Astates, z_a G.2.1 36 r_states), (r_Aheld, z_a G.2.1 73 r_held), (r_Ahere, z_a G.2.2.2.2 36 r_here), (r_Athere, z_a G.2.2.2.2 36 r_there)]) 0 0 (fun v w => v = none ∧ w = [(r_o, z_o 6 [.ref r_Atext, z_i r_typed, .ref r_Atold, .ref r_Adraft, .ref r_Abegun, .ref r_As, .ref r_Apast, z_i r_known, .ref r_Aimages, z_i r_kept, .ref r_Arings, z_i r_rung, z_i r_at, .ref r_Astates, .ref r_Aheld, .ref r_Ahere, .ref r_Athere]), (r_Atext, z_a G.2.1 200 r_text), (r_Atold, z_a G.2.1 39 r_told), (r_Adraft, z_a G.2.1 39 r_draft), (r_Abegun, z_a G.2.1 73 r_begun), (r_As, z_a G.2.1 73 q_r_s), (r_Apast, z_a G.2.1 584 r_past), (r_Aimages, z_a G.2.1 146 r_images), (r_Arings, z_a G.2.1 6 r_rings), (r_Astates, z_a G.2.1 36 r_states), (r_Aheld, z_a G.2.1 73 r_held), (r_Ahere, z_a G.2.2.2.2 36 r_here), (r_Athere, z_a G.2.2.2.2 36 r_there)] ∧ z_r q_r_s ∧ True) := by
  unfold m_X6_shines at hm
  refine z_M.intro (by decide +kernel) (Nat.le_of_ble_eq_true rfl) (L := [(0, .ref r_o)]) rfl (fun X C E => ?_)
  refine z_aload_n C dX6_shines_0 0 rfl ?_
  refine z_get C zf_X6_22 dX6_shines_1 0 rfl rfl ?_
  refine z_bipush C dX6_shines_4 (by decide) ?_
  refine z_dup2 C rfl rfl dX6_shines_6 ?_
  obtain ⟨c1, hm⟩ := z_chk_some hm
  refine z_iald C dX6_shines_7 5 rfl c1 (z_k 72 rfl) ?_
  refine z_iconst C dX6_shines_8 ?_
  obtain ⟨c2, hm⟩ := z_chk_some hm
  refine z_iadd C dX6_shines_9 ?_
  obtain ⟨c3, hm⟩ := z_chk_some hm
  refine z_iast C dX6_shines_10 5 rfl c3 (z_k 72 rfl) (ws' := [(r_o, z_o 6 [.ref r_Atext, z_i r_typed, .ref r_Atold, .ref r_Adraft, .ref r_Abegun, .ref r_As, .ref r_Apast, z_i r_known, .ref r_Aimages, z_i r_kept, .ref r_Arings, z_i r_rung, z_i r_at, .ref r_Astates, .ref r_Aheld, .ref r_Ahere, .ref r_Athere]), (r_Atext, z_a G.2.1 200 r_text), (r_Atold, z_a G.2.1 39 r_told), (r_Adraft, z_a G.2.1 39 r_draft), (r_Abegun, z_a G.2.1 73 r_begun), (r_As, z_a G.2.1 73 (z_up r_s 72 ((r_s 72) + 1))), (r_Apast, z_a G.2.1 584 r_past), (r_Aimages, z_a G.2.1 146 r_images), (r_Arings, z_a G.2.1 6 r_rings), (r_Astates, z_a G.2.1 36 r_states), (r_Aheld, z_a G.2.1 73 r_held), (r_Ahere, z_a G.2.2.2.2 36 r_here), (r_Athere, z_a G.2.2.2.2 36 r_there)]) rfl ?_
  refine z_iconst C dX6_shines_11 ?_
  refine z_istore_n C dX6_shines_12 (by decide) (L' := [(1, z_i 0), (0, .ref r_o)]) rfl ?_
  obtain ⟨o_r_s_1, hl, hm⟩ := z_b1s hm
  have JX1 : z_r o_r_s_1 → z_J X 0 0 ([(r_o, z_o 6 [.ref r_Atext, z_i r_typed, .ref r_Atold, .ref r_Adraft, .ref r_Abegun, .ref r_As, .ref r_Apast, z_i r_known, .ref r_Aimages, z_i r_kept, .ref r_Arings, z_i r_rung, z_i r_at, .ref r_Astates, .ref r_Aheld, .ref r_Ahere, .ref r_Athere]), (r_Atext, z_a G.2.1 200 r_text), (r_Atold, z_a G.2.1 39 r_told), (r_Adraft, z_a G.2.1 39 r_draft), (r_Abegun, z_a G.2.1 73 r_begun), (r_As, z_a G.2.1 73 o_r_s_1), (r_Apast, z_a G.2.1 584 r_past), (r_Aimages, z_a G.2.1 146 r_images), (r_Arings, z_a G.2.1 6 r_rings), (r_Astates, z_a G.2.1 36 r_states), (r_Aheld, z_a G.2.1 73 r_held), (r_Ahere, z_a G.2.2.2.2 36 r_here), (r_Athere, z_a G.2.2.2.2 36 r_there)]) [(0, .ref r_o)] 84 [] := by
    intro h_o_r_s_1
    clear hl
    refine z_iconst C dX6_shines_84 ?_
    refine z_istore_n C dX6_shines_85 (by decide) (L' := [(1, z_i 0), (0, .ref r_o)]) rfl ?_
    obtain ⟨o_r_s_2, hl, hm⟩ := z_b1s hm
    have JX2 : z_r o_r_s_2 → z_J X 0 0 ([(r_o, z_o 6 [.ref r_Atext, z_i r_typed, .ref r_Atold, .ref r_Adraft, .ref r_Abegun, .ref r_As, .ref r_Apast, z_i r_known, .ref r_Aimages, z_i r_kept, .ref r_Arings, z_i r_rung, z_i r_at, .ref r_Astates, .ref r_Aheld, .ref r_Ahere, .ref r_Athere]), (r_Atext, z_a G.2.1 200 r_text), (r_Atold, z_a G.2.1 39 r_told), (r_Adraft, z_a G.2.1 39 r_draft), (r_Abegun, z_a G.2.1 73 r_begun), (r_As, z_a G.2.1 73 o_r_s_2), (r_Apast, z_a G.2.1 584 r_past), (r_Aimages, z_a G.2.1 146 r_images), (r_Arings, z_a G.2.1 6 r_rings), (r_Astates, z_a G.2.1 36 r_states), (r_Aheld, z_a G.2.1 73 r_held), (r_Ahere, z_a G.2.2.2.2 36 r_here), (r_Athere, z_a G.2.2.2.2 36 r_there)]) [(0, .ref r_o)] 137 [] := by
      intro h_o_r_s_2
      clear hl
      refine z_aload_n C dX6_shines_137 0 rfl ?_
      obtain ⟨r_s_43, k44, hm⟩ := z_b1s hm
      refine z_callVvd C (k_X6_flows l G N r_o r_Atext r_Atold r_Adraft r_Abegun r_As r_Apast r_Aimages r_Arings r_Astates r_Aheld r_Ahere r_Athere r_text r_typed r_told r_draft r_begun o_r_s_2 r_past r_known r_images r_kept r_rings r_rung r_at r_states r_held r_here r_there h_r_text h_r_typed h_r_told h_r_draft h_r_begun h_o_r_s_2 h_r_past h_r_known h_r_images h_r_kept h_r_rings h_r_rung h_r_at h_r_states h_r_held h_r_here h_r_there r_s_43 k44) zv_X6_flows zl_X6_86 dX6_shines_138 rfl 0 rfl rfl rfl [] rfl (Nat.le_of_ble_eq_true rfl) ⟨Nat.le_of_ble_eq_true rfl, Nat.le_of_ble_eq_true rfl⟩ ⟨rfl, rfl⟩ ⟨Nat.zero_le _, Nat.zero_le _⟩ (fun hF => ?_)
      obtain ⟨h_r_s_43, -⟩ := hF
      cases hm
      exact z_vret C E dX6_shines_141 ⟨rfl, rfl, h_r_s_43, trivial⟩
    clear hm
    have L2 : ∀ (n2 : Nat) (v1_2 : Int) (r_s_2 : (Int → Int)), z_n v1_2 → z_r r_s_2 → m_X6_shines_l2 N r_told n2 v1_2 r_s_2 = some (o_r_s_2) → z_J X 0 0 ([(r_o, z_o 6 [.ref r_Atext, z_i r_typed, .ref r_Atold, .ref r_Adraft, .ref r_Abegun, .ref r_As, .ref r_Apast, z_i r_known, .ref r_Aimages, z_i r_kept, .ref r_Arings, z_i r_rung, z_i r_at, .ref r_Astates, .ref r_Aheld, .ref r_Ahere, .ref r_Athere]), (r_Atext, z_a G.2.1 200 r_text), (r_Atold, z_a G.2.1 39 r_told), (r_Adraft, z_a G.2.1 39 r_draft), (r_Abegun, z_a G.2.1 73 r_begun), (r_As, z_a G.2.1 73 r_s_2), (r_Apast, z_a G.2.1 584 r_past), (r_Aimages, z_a G.2.1 146 r_images), (r_Arings, z_a G.2.1 6 r_rings), (r_Astates, z_a G.2.1 36 r_states), (r_Aheld, z_a G.2.1 73 r_held), (r_Ahere, z_a G.2.2.2.2 36 r_here), (r_Athere, z_a G.2.2.2.2 36 r_there)]) [(0, .ref r_o), (1, z_i v1_2)] 86 [] := by
      clear hl
      intro n2
      induction n2 with
      | zero =>
        intro v1_2 r_s_2 h_v1_2 h_r_s_2 hm
        rw [m_X6_shines_l2] at hm
        cases hm
      | succ n2 ih2 =>
        intro v1_2 r_s_2 h_v1_2 h_r_s_2 hm
        rw [m_X6_shines_l2] at hm
        refine z_iload_n C dX6_shines_86 1 rfl ?_
        refine z_aload_n C dX6_shines_87 0 rfl ?_
        obtain ⟨r25, k26, hm⟩ := z_b1s hm
        refine z_callVid C (k_X6_cells l G N r_o r_Atext r_Atold r_Adraft r_Abegun r_As r_Apast r_Aimages r_Arings r_Astates r_Aheld r_Ahere r_Athere r_text r_typed r_told r_draft r_begun r_s_2 r_past r_known r_images r_kept r_rings r_rung r_at r_states r_held r_here r_there h_r_text h_r_typed h_r_told h_r_draft h_r_begun h_r_s_2 h_r_past h_r_known h_r_images h_r_kept h_r_rings h_r_rung h_r_at h_r_states h_r_held h_r_here h_r_there r25 k26) zv_X6_cells zl_X6_53 dX6_shines_88 rfl 0 rfl rfl rfl [z_i v1_2] rfl (Nat.le_of_ble_eq_true rfl) ⟨Nat.le_of_ble_eq_true rfl, Nat.le_of_ble_eq_true rfl⟩ ⟨rfl, rfl⟩ ⟨Nat.zero_le _, Nat.zero_le _⟩ (fun hF => ?_)
        obtain ⟨h_r25, -⟩ := hF
        refine z_icmp_ge (tgt := 137) C h_v1_2 h_r25 dX6_shines_91 (by decide) (fun c27 => ?_) (fun c27 => ?_)
        · have hm := z_pos c27 hm
          refine z_sub (L' := [(0, .ref r_o)]) [0] rfl ?_
          cases hm
          exact JX2 h_r_s_2
        · have hm := z_neg c27 hm
          refine z_aload_n C dX6_shines_94 0 rfl ?_
          refine z_get C zf_X6_22 dX6_shines_95 0 rfl rfl ?_
          refine z_iload_n C dX6_shines_98 1 rfl ?_
          refine z_dup2 C rfl rfl dX6_shines_99 ?_
          obtain ⟨c28, hm⟩ := z_chk_some hm
          refine z_iald C dX6_shines_100 5 rfl c28 h_v1_2 ?_
          refine z_aload_n C dX6_shines_101 0 rfl ?_
          refine z_get C zf_X6_13 dX6_shines_102 0 rfl rfl ?_
          refine z_iconst C dX6_shines_105 ?_
          refine z_iload_n C dX6_shines_106 1 rfl ?_
          obtain ⟨c29, hm⟩ := z_chk_some hm
          refine z_iadd C dX6_shines_107 ?_
          obtain ⟨c30, hm⟩ := z_chk_some hm
          refine z_iald C dX6_shines_108 2 rfl c30 c29 ?_
          refine z_iconst C dX6_shines_109 ?_
          refine z_icmp_ne (tgt := 128) C (h_r_told _) (z_k 4 rfl) dX6_shines_110 (by decide) (fun c31 => ?_) (fun c31 => ?_)
          · have hm := z_pos c31 hm
            refine z_iconst C dX6_shines_128 ?_
            obtain ⟨c32, hm⟩ := z_chk_some hm
            refine z_iadd C dX6_shines_129 ?_
            obtain ⟨c33, hm⟩ := z_chk_some hm
            refine z_iast C dX6_shines_130 5 rfl c33 h_v1_2 (ws' := [(r_o, z_o 6 [.ref r_Atext, z_i r_typed, .ref r_Atold, .ref r_Adraft, .ref r_Abegun, .ref r_As, .ref r_Apast, z_i r_known, .ref r_Aimages, z_i r_kept, .ref r_Arings, z_i r_rung, z_i r_at, .ref r_Astates, .ref r_Aheld, .ref r_Ahere, .ref r_Athere]), (r_Atext, z_a G.2.1 200 r_text), (r_Atold, z_a G.2.1 39 r_told), (r_Adraft, z_a G.2.1 39 r_draft), (r_Abegun, z_a G.2.1 73 r_begun), (r_As, z_a G.2.1 73 (z_up r_s_2 v1_2 ((r_s_2 v1_2) + 0))), (r_Apast, z_a G.2.1 584 r_past), (r_Aimages, z_a G.2.1 146 r_images), (r_Arings, z_a G.2.1 6 r_rings), (r_Astates, z_a G.2.1 36 r_states), (r_Aheld, z_a G.2.1 73 r_held), (r_Ahere, z_a G.2.2.2.2 36 r_here), (r_Athere, z_a G.2.2.2.2 36 r_there)]) rfl ?_
            obtain ⟨c34, hm⟩ := z_chk_some hm
            refine z_iinc C dX6_shines_131 1 rfl (by decide) (L' := [(1, z_i (v1_2 + 1)), (0, .ref r_o)]) rfl ?_
            refine z_goto (tgt := 86) C dX6_shines_134 (by decide) ?_
            refine z_sub (L' := [(0, .ref r_o), (1, z_i (v1_2 + 1))]) [1, 0] rfl ?_
            exact ih2 (v1_2 + 1) (z_up r_s_2 v1_2 ((r_s_2 v1_2) + 0)) c34 (z_r_up h_r_s_2 c32) hm
          · have hm := z_neg c31 hm
            refine z_aload_n C dX6_shines_113 0 rfl ?_
            refine z_get C zf_X6_22 dX6_shines_114 0 rfl rfl ?_
            refine z_iload_n C dX6_shines_117 1 rfl ?_
            obtain ⟨c35, hm⟩ := z_chk_some hm
            refine z_iald C dX6_shines_118 5 rfl c35 h_v1_2 ?_
            refine z_bipush C dX6_shines_119 (by decide) ?_
            refine z_icmp_ge (tgt := 128) C (h_r_s_2 _) (z_k 60 rfl) dX6_shines_121 (by decide) (fun c36 => ?_) (fun c36 => ?_)
            · have hm := z_pos c36 hm
              refine z_iconst C dX6_shines_128 ?_
              obtain ⟨c37, hm⟩ := z_chk_some hm
              refine z_iadd C dX6_shines_129 ?_
              obtain ⟨c38, hm⟩ := z_chk_some hm
              refine z_iast C dX6_shines_130 5 rfl c38 h_v1_2 (ws' := [(r_o, z_o 6 [.ref r_Atext, z_i r_typed, .ref r_Atold, .ref r_Adraft, .ref r_Abegun, .ref r_As, .ref r_Apast, z_i r_known, .ref r_Aimages, z_i r_kept, .ref r_Arings, z_i r_rung, z_i r_at, .ref r_Astates, .ref r_Aheld, .ref r_Ahere, .ref r_Athere]), (r_Atext, z_a G.2.1 200 r_text), (r_Atold, z_a G.2.1 39 r_told), (r_Adraft, z_a G.2.1 39 r_draft), (r_Abegun, z_a G.2.1 73 r_begun), (r_As, z_a G.2.1 73 (z_up r_s_2 v1_2 ((r_s_2 v1_2) + 0))), (r_Apast, z_a G.2.1 584 r_past), (r_Aimages, z_a G.2.1 146 r_images), (r_Arings, z_a G.2.1 6 r_rings), (r_Astates, z_a G.2.1 36 r_states), (r_Aheld, z_a G.2.1 73 r_held), (r_Ahere, z_a G.2.2.2.2 36 r_here), (r_Athere, z_a G.2.2.2.2 36 r_there)]) rfl ?_
              obtain ⟨c39, hm⟩ := z_chk_some hm
              refine z_iinc C dX6_shines_131 1 rfl (by decide) (L' := [(1, z_i (v1_2 + 1)), (0, .ref r_o)]) rfl ?_
              refine z_goto (tgt := 86) C dX6_shines_134 (by decide) ?_
              refine z_sub (L' := [(0, .ref r_o), (1, z_i (v1_2 + 1))]) [1, 0] rfl ?_
              exact ih2 (v1_2 + 1) (z_up r_s_2 v1_2 ((r_s_2 v1_2) + 0)) c39 (z_r_up h_r_s_2 c37) hm
            · have hm := z_neg c36 hm
              refine z_iconst C dX6_shines_124 ?_
              refine z_goto (tgt := 129) C dX6_shines_125 (by decide) ?_
              obtain ⟨c40, hm⟩ := z_chk_some hm
              refine z_iadd C dX6_shines_129 ?_
              obtain ⟨c41, hm⟩ := z_chk_some hm
              refine z_iast C dX6_shines_130 5 rfl c41 h_v1_2 (ws' := [(r_o, z_o 6 [.ref r_Atext, z_i r_typed, .ref r_Atold, .ref r_Adraft, .ref r_Abegun, .ref r_As, .ref r_Apast, z_i r_known, .ref r_Aimages, z_i r_kept, .ref r_Arings, z_i r_rung, z_i r_at, .ref r_Astates, .ref r_Aheld, .ref r_Ahere, .ref r_Athere]), (r_Atext, z_a G.2.1 200 r_text), (r_Atold, z_a G.2.1 39 r_told), (r_Adraft, z_a G.2.1 39 r_draft), (r_Abegun, z_a G.2.1 73 r_begun), (r_As, z_a G.2.1 73 (z_up r_s_2 v1_2 ((r_s_2 v1_2) + 1))), (r_Apast, z_a G.2.1 584 r_past), (r_Aimages, z_a G.2.1 146 r_images), (r_Arings, z_a G.2.1 6 r_rings), (r_Astates, z_a G.2.1 36 r_states), (r_Aheld, z_a G.2.1 73 r_held), (r_Ahere, z_a G.2.2.2.2 36 r_here), (r_Athere, z_a G.2.2.2.2 36 r_there)]) rfl ?_
              obtain ⟨c42, hm⟩ := z_chk_some hm
              refine z_iinc C dX6_shines_131 1 rfl (by decide) (L' := [(1, z_i (v1_2 + 1)), (0, .ref r_o)]) rfl ?_
              refine z_goto (tgt := 86) C dX6_shines_134 (by decide) ?_
              refine z_sub (L' := [(0, .ref r_o), (1, z_i (v1_2 + 1))]) [1, 0] rfl ?_
              exact ih2 (v1_2 + 1) (z_up r_s_2 v1_2 ((r_s_2 v1_2) + 1)) c42 (z_r_up h_r_s_2 c40) hm
    refine z_sub (L' := [(0, .ref r_o), (1, z_i 0)]) [1, 0] rfl ?_
    exact L2 N 0 o_r_s_1 (z_k 0 rfl) h_o_r_s_1 hl
  clear hm
  have L1 : ∀ (n1 : Nat) (v1_1 : Int) (r_s_1 : (Int → Int)), z_n v1_1 → z_r r_s_1 → m_X6_shines_l1 N r_told n1 v1_1 r_s_1 = some (o_r_s_1) → z_J X 0 0 ([(r_o, z_o 6 [.ref r_Atext, z_i r_typed, .ref r_Atold, .ref r_Adraft, .ref r_Abegun, .ref r_As, .ref r_Apast, z_i r_known, .ref r_Aimages, z_i r_kept, .ref r_Arings, z_i r_rung, z_i r_at, .ref r_Astates, .ref r_Aheld, .ref r_Ahere, .ref r_Athere]), (r_Atext, z_a G.2.1 200 r_text), (r_Atold, z_a G.2.1 39 r_told), (r_Adraft, z_a G.2.1 39 r_draft), (r_Abegun, z_a G.2.1 73 r_begun), (r_As, z_a G.2.1 73 r_s_1), (r_Apast, z_a G.2.1 584 r_past), (r_Aimages, z_a G.2.1 146 r_images), (r_Arings, z_a G.2.1 6 r_rings), (r_Astates, z_a G.2.1 36 r_states), (r_Aheld, z_a G.2.1 73 r_held), (r_Ahere, z_a G.2.2.2.2 36 r_here), (r_Athere, z_a G.2.2.2.2 36 r_there)]) [(0, .ref r_o), (1, z_i v1_1)] 13 [] := by
    clear hl
    intro n1
    induction n1 with
    | zero =>
      intro v1_1 r_s_1 h_v1_1 h_r_s_1 hm
      rw [m_X6_shines_l1] at hm
      cases hm
    | succ n1 ih1 =>
      intro v1_1 r_s_1 h_v1_1 h_r_s_1 hm
      rw [m_X6_shines_l1] at hm
      refine z_iload_n C dX6_shines_13 1 rfl ?_
      refine z_aload_n C dX6_shines_14 0 rfl ?_
      obtain ⟨r4, k5, hm⟩ := z_b1s hm
      refine z_callVid C (k_X6_cells l G N r_o r_Atext r_Atold r_Adraft r_Abegun r_As r_Apast r_Aimages r_Arings r_Astates r_Aheld r_Ahere r_Athere r_text r_typed r_told r_draft r_begun r_s_1 r_past r_known r_images r_kept r_rings r_rung r_at r_states r_held r_here r_there h_r_text h_r_typed h_r_told h_r_draft h_r_begun h_r_s_1 h_r_past h_r_known h_r_images h_r_kept h_r_rings h_r_rung h_r_at h_r_states h_r_held h_r_here h_r_there r4 k5) zv_X6_cells zl_X6_53 dX6_shines_15 rfl 0 rfl rfl rfl [z_i v1_1] rfl (Nat.le_of_ble_eq_true rfl) ⟨Nat.le_of_ble_eq_true rfl, Nat.le_of_ble_eq_true rfl⟩ ⟨rfl, rfl⟩ ⟨Nat.zero_le _, Nat.zero_le _⟩ (fun hF => ?_)
      obtain ⟨h_r4, -⟩ := hF
      refine z_icmp_ge (tgt := 84) C h_v1_1 h_r4 dX6_shines_18 (by decide) (fun c6 => ?_) (fun c6 => ?_)
      · have hm := z_pos c6 hm
        refine z_sub (L' := [(0, .ref r_o)]) [0] rfl ?_
        cases hm
        exact JX1 h_r_s_1
      · have hm := z_neg c6 hm
        refine z_aload_n C dX6_shines_21 0 rfl ?_
        refine z_get C zf_X6_22 dX6_shines_22 0 rfl rfl ?_
        refine z_iload_n C dX6_shines_25 1 rfl ?_
        obtain ⟨c7, hm⟩ := z_chk_some hm
        refine z_iald C dX6_shines_26 5 rfl c7 h_v1_1 ?_
        obtain ⟨s15, hj, hm⟩ := z_b1s hm
        have J16 : z_n s15 → (s15 = 0 ∨ s15 = 1) → z_J X 0 0 ([(r_o, z_o 6 [.ref r_Atext, z_i r_typed, .ref r_Atold, .ref r_Adraft, .ref r_Abegun, .ref r_As, .ref r_Apast, z_i r_known, .ref r_Aimages, z_i r_kept, .ref r_Arings, z_i r_rung, z_i r_at, .ref r_Astates, .ref r_Aheld, .ref r_Ahere, .ref r_Athere]), (r_Atext, z_a G.2.1 200 r_text), (r_Atold, z_a G.2.1 39 r_told), (r_Adraft, z_a G.2.1 39 r_draft), (r_Abegun, z_a G.2.1 73 r_begun), (r_As, z_a G.2.1 73 r_s_1), (r_Apast, z_a G.2.1 584 r_past), (r_Aimages, z_a G.2.1 146 r_images), (r_Arings, z_a G.2.1 6 r_rings), (r_Astates, z_a G.2.1 36 r_states), (r_Aheld, z_a G.2.1 73 r_held), (r_Ahere, z_a G.2.2.2.2 36 r_here), (r_Athere, z_a G.2.2.2.2 36 r_there)]) [(0, .ref r_o), (1, z_i v1_1)] 59 [z_i s15] := by
          intro h_s15 hb_s15
          clear hj
          refine z_istore_n C dX6_shines_59 (by decide) (L' := [(2, z_i s15), (0, .ref r_o), (1, z_i v1_1)]) rfl ?_
          refine z_aload_n C dX6_shines_60 1 rfl ?_
          refine z_get C zf_X6_22 dX6_shines_61 0 rfl rfl ?_
          refine z_iload_n C dX6_shines_64 2 rfl ?_
          refine z_dup2 C rfl rfl dX6_shines_65 ?_
          obtain ⟨c17, hm⟩ := z_chk_some hm
          refine z_iald C dX6_shines_66 5 rfl c17 h_v1_1 ?_
          refine z_iload_n C dX6_shines_67 0 rfl ?_
          refine z_if_eq (tgt := 75) C h_s15 dX6_shines_68 (by decide) (fun c18 => ?_) (fun c18 => ?_)
          · have hm := z_pos c18 hm
            refine z_iconst C dX6_shines_75 ?_
            obtain ⟨c19, hm⟩ := z_chk_some hm
            refine z_isub C dX6_shines_76 ?_
            obtain ⟨c20, hm⟩ := z_chk_some hm
            refine z_iast C dX6_shines_77 5 rfl c20 h_v1_1 (ws' := [(r_o, z_o 6 [.ref r_Atext, z_i r_typed, .ref r_Atold, .ref r_Adraft, .ref r_Abegun, .ref r_As, .ref r_Apast, z_i r_known, .ref r_Aimages, z_i r_kept, .ref r_Arings, z_i r_rung, z_i r_at, .ref r_Astates, .ref r_Aheld, .ref r_Ahere, .ref r_Athere]), (r_Atext, z_a G.2.1 200 r_text), (r_Atold, z_a G.2.1 39 r_told), (r_Adraft, z_a G.2.1 39 r_draft), (r_Abegun, z_a G.2.1 73 r_begun), (r_As, z_a G.2.1 73 (z_up r_s_1 v1_1 ((r_s_1 v1_1) - 0))), (r_Apast, z_a G.2.1 584 r_past), (r_Aimages, z_a G.2.1 146 r_images), (r_Arings, z_a G.2.1 6 r_rings), (r_Astates, z_a G.2.1 36 r_states), (r_Aheld, z_a G.2.1 73 r_held), (r_Ahere, z_a G.2.2.2.2 36 r_here), (r_Athere, z_a G.2.2.2.2 36 r_there)]) rfl ?_
            obtain ⟨c21, hm⟩ := z_chk_some hm
            refine z_iinc C dX6_shines_78 2 rfl (by decide) (L' := [(1, z_i (v1_1 + 1)), (2, z_i s15), (0, .ref r_o)]) rfl ?_
            refine z_goto (tgt := 13) C dX6_shines_81 (by decide) ?_
            refine z_sub (L' := [(0, .ref r_o), (1, z_i (v1_1 + 1))]) [2, 0] rfl ?_
            exact ih1 (v1_1 + 1) (z_up r_s_1 v1_1 ((r_s_1 v1_1) - 0)) c21 (z_r_up h_r_s_1 c19) hm
          · have hm := z_neg c18 hm
            refine z_iconst C dX6_shines_71 ?_
            refine z_goto (tgt := 76) C dX6_shines_72 (by decide) ?_
            obtain ⟨c22, hm⟩ := z_chk_some hm
            refine z_isub C dX6_shines_76 ?_
            obtain ⟨c23, hm⟩ := z_chk_some hm
            refine z_iast C dX6_shines_77 5 rfl c23 h_v1_1 (ws' := [(r_o, z_o 6 [.ref r_Atext, z_i r_typed, .ref r_Atold, .ref r_Adraft, .ref r_Abegun, .ref r_As, .ref r_Apast, z_i r_known, .ref r_Aimages, z_i r_kept, .ref r_Arings, z_i r_rung, z_i r_at, .ref r_Astates, .ref r_Aheld, .ref r_Ahere, .ref r_Athere]), (r_Atext, z_a G.2.1 200 r_text), (r_Atold, z_a G.2.1 39 r_told), (r_Adraft, z_a G.2.1 39 r_draft), (r_Abegun, z_a G.2.1 73 r_begun), (r_As, z_a G.2.1 73 (z_up r_s_1 v1_1 ((r_s_1 v1_1) - 1))), (r_Apast, z_a G.2.1 584 r_past), (r_Aimages, z_a G.2.1 146 r_images), (r_Arings, z_a G.2.1 6 r_rings), (r_Astates, z_a G.2.1 36 r_states), (r_Aheld, z_a G.2.1 73 r_held), (r_Ahere, z_a G.2.2.2.2 36 r_here), (r_Athere, z_a G.2.2.2.2 36 r_there)]) rfl ?_
            obtain ⟨c24, hm⟩ := z_chk_some hm
            refine z_iinc C dX6_shines_78 2 rfl (by decide) (L' := [(1, z_i (v1_1 + 1)), (2, z_i s15), (0, .ref r_o)]) rfl ?_
            refine z_goto (tgt := 13) C dX6_shines_81 (by decide) ?_
            refine z_sub (L' := [(0, .ref r_o), (1, z_i (v1_1 + 1))]) [2, 0] rfl ?_
            exact ih1 (v1_1 + 1) (z_up r_s_1 v1_1 ((r_s_1 v1_1) - 1)) c24 (z_r_up h_r_s_1 c22) hm
        replace hm := hj
        clear hj
        refine z_if_le (tgt := 58) C (h_r_s_1 _) dX6_shines_27 (by decide) (fun c8 => ?_) (fun c8 => ?_)
        · have hm := z_pos c8 hm
          refine z_iconst C dX6_shines_58 ?_
          cases hm
          exact J16 (z_k 0 rfl) (Or.inl rfl)
        · have hm := z_neg c8 hm
          refine z_aload_n C dX6_shines_30 0 rfl ?_
          refine z_get C zf_X6_13 dX6_shines_31 0 rfl rfl ?_
          refine z_iconst C dX6_shines_34 ?_
          refine z_iload_n C dX6_shines_35 1 rfl ?_
          obtain ⟨c9, hm⟩ := z_chk_some hm
          refine z_iadd C dX6_shines_36 ?_
          obtain ⟨c10, hm⟩ := z_chk_some hm
          refine z_iald C dX6_shines_37 2 rfl c10 c9 ?_
          refine z_iconst C dX6_shines_38 ?_
          refine z_icmp_ne (tgt := 54) C (h_r_told _) (z_k 1 rfl) dX6_shines_39 (by decide) (fun c11 => ?_) (fun c11 => ?_)
          · have hm := z_pos c11 hm
            refine z_iconst C dX6_shines_54 ?_
            refine z_goto (tgt := 59) C dX6_shines_55 (by decide) ?_
            cases hm
            exact J16 (z_k 1 rfl) (Or.inr rfl)
          · have hm := z_neg c11 hm
            refine z_aload_n C dX6_shines_42 0 rfl ?_
            refine z_get C zf_X6_22 dX6_shines_43 0 rfl rfl ?_
            refine z_bipush C dX6_shines_46 (by decide) ?_
            obtain ⟨c12, hm⟩ := z_chk_some hm
            refine z_iald C dX6_shines_48 5 rfl c12 (z_k 72 rfl) ?_
            refine z_iconst C dX6_shines_49 ?_
            obtain ⟨c13, hm⟩ := z_chk_some hm
            refine z_irem C (h_r_s_1 _) (z_k 2 rfl) (by decide) dX6_shines_50 ?_
            refine z_if_ne (tgt := 58) C c13 dX6_shines_51 (by decide) (fun c14 => ?_) (fun c14 => ?_)
            · have hm := z_pos c14 hm
              refine z_iconst C dX6_shines_58 ?_
              cases hm
              exact J16 (z_k 0 rfl) (Or.inl rfl)
            · have hm := z_neg c14 hm
              refine z_iconst C dX6_shines_54 ?_
              refine z_goto (tgt := 59) C dX6_shines_55 (by decide) ?_
              cases hm
              exact J16 (z_k 1 rfl) (Or.inr rfl)
  refine z_sub (L' := [(0, .ref r_o), (1, z_i 0)]) [1, 0] rfl ?_
  exact L1 N 0 (z_up r_s 72 ((r_s 72) + 1)) (z_k 0 rfl) (z_r_up h_r_s c2) hl
set_option maxRecDepth 100000 in
theorem k_X6_shine (l : Launch) (G : z_G) (N : Nat) (r_o r_Atext r_Atold r_Adraft r_Abegun r_As r_Apast r_Aimages r_Arings r_Astates r_Aheld r_Ahere r_Athere : Nat) (r_text : (Int → Int)) (r_typed : Int) (r_told : (Int → Int)) (r_draft : (Int → Int)) (r_begun : (Int → Int)) (r_s : (Int → Int)) (r_past : (Int → Int)) (r_known : Int) (r_images : (Int → Int)) (r_kept : Int) (r_rings : (Int → Int)) (r_rung : Int) (r_at : Int) (r_states : (Int → Int)) (r_held : (Int → Int)) (r_here : (Int → Int)) (r_there : (Int → Int)) (x1 : Int) (h_r_text : z_r r_text) (h_r_typed : z_n r_typed) (h_r_told : z_r r_told) (h_r_draft : z_r r_draft) (h_r_begun : z_r r_begun) (h_r_s : z_r r_s) (h_r_past : z_r r_past) (h_r_known : z_n r_known) (h_r_images : z_r r_images) (h_r_kept : z_n r_kept) (h_r_rings : z_r r_rings) (h_r_rung : z_n r_rung) (h_r_at : z_n r_at) (h_r_states : z_r r_states) (h_r_held : z_r r_held) (h_r_here : z_r r_here) (h_r_there : z_r r_there) (h_x1 : z_n x1) (rr : Int) (q_r_s : (Int → Int)) (q_r_past : (Int → Int)) (q_r_known : Int) (hm : m_X6_shine N r_told r_s r_past r_known x1 = some (rr, q_r_s, q_r_past, q_r_known)) : z_M l G yX6_shine cX6_shine 3 (some .int) (k2_rm 6 139) [.ref r_o, z_i x1] ([(r_o, z_o 6 [.ref r_Atext, z_i r_typed, .ref r_Atold, .ref r_Adraft, .ref r_Abegun, .ref r_As, .ref r_Apast, z_i r_known, .ref r_Aimages, z_i r_kept, .ref r_Arings, z_i r_rung, z_i r_at, .ref r_Astates, .ref r_Aheld, .ref r_Ahere, .ref r_Athere]), (r_Atext, z_a G.2.1 200 r_text), (r_Atold, z_a G.2.1 39 r_told), (r_Adraft, z_a G.2.1 39 r_draft), (r_Abegun, z_a G.2.1 73 r_begun), (r_As, z_a G.2.1 73 r_s), (r_Apast, z_a G.2.1 584 r_past), (r_Aimages, z_a G.2.1 146 r_images), (r_Arings, z_a G.2.1 6 r_rings), (r_Astates, z_a G.2.1 36 r_states), (r_Aheld, z_a G.2.1 73 r_held), (r_Ahere, z_a G.2.2.2.2 36 r_here), (r_Athere, z_a G.2.2.2.2 36 r_there)]) 0 0 (fun v w => v = some (z_i rr) ∧ w = [(r_o, z_o 6 [.ref r_Atext, z_i r_typed, .ref r_Atold, .ref r_Adraft, .ref r_Abegun, .ref r_As, .ref r_Apast, z_i q_r_known, .ref r_Aimages, z_i r_kept, .ref r_Arings, z_i r_rung, z_i r_at, .ref r_Astates, .ref r_Aheld, .ref r_Ahere, .ref r_Athere]), (r_Atext, z_a G.2.1 200 r_text), (r_Atold, z_a G.2.1 39 r_told), (r_Adraft, z_a G.2.1 39 r_draft), (r_Abegun, z_a G.2.1 73 r_begun), (r_As, z_a G.2.1 73 q_r_s), (r_Apast, z_a G.2.1 584 q_r_past), (r_Aimages, z_a G.2.1 146 r_images), (r_Arings, z_a G.2.1 6 r_rings), (r_Astates, z_a G.2.1 36 r_states), (r_Aheld, z_a G.2.1 73 r_held), (r_Ahere, z_a G.2.2.2.2 36 r_here), (r_Athere, z_a G.2.2.2.2 36 r_there)] ∧ z_n rr ∧ z_r q_r_s ∧ z_r q_r_past ∧ z_n q_r_known ∧ True) := by
  unfold m_X6_shine at hm
  refine z_M.intro (by decide +kernel) (Nat.le_of_ble_eq_true rfl) (L := [(0, .ref r_o), (1, z_i x1)]) rfl (fun X C E => ?_)
  refine z_iload_n C dX6_shine_0 1 rfl ?_
  refine z_iconst C dX6_shine_1 ?_
  refine z_bipush C dX6_shine_2 (by decide) ?_
  obtain ⟨r1, k2, hm⟩ := z_b1s hm
  refine z_callSi C (k_X6_in l G N x1 1 20 h_x1 (z_k 1 rfl) (z_k 20 rfl) r1 k2) zs_X6_in zl_X6_57 dX6_shine_4 [] rfl rfl rfl (ws' := [(r_o, z_o 6 [.ref r_Atext, z_i r_typed, .ref r_Atold, .ref r_Adraft, .ref r_Abegun, .ref r_As, .ref r_Apast, z_i r_known, .ref r_Aimages, z_i r_kept, .ref r_Arings, z_i r_rung, z_i r_at, .ref r_Astates, .ref r_Aheld, .ref r_Ahere, .ref r_Athere]), (r_Atext, z_a G.2.1 200 r_text), (r_Atold, z_a G.2.1 39 r_told), (r_Adraft, z_a G.2.1 39 r_draft), (r_Abegun, z_a G.2.1 73 r_begun), (r_As, z_a G.2.1 73 r_s), (r_Apast, z_a G.2.1 584 r_past), (r_Aimages, z_a G.2.1 146 r_images), (r_Arings, z_a G.2.1 6 r_rings), (r_Astates, z_a G.2.1 36 r_states), (r_Aheld, z_a G.2.1 73 r_held), (r_Ahere, z_a G.2.2.2.2 36 r_here), (r_Athere, z_a G.2.2.2.2 36 r_there)]) rfl rfl [] rfl (Nat.le_of_ble_eq_true rfl) ⟨Nat.le_of_ble_eq_true rfl, Nat.le_of_ble_eq_true rfl⟩ ⟨rfl, rfl⟩ ⟨Nat.zero_le _, Nat.zero_le _⟩ (fun hF => ?_)
  obtain ⟨hb_r1, -⟩ := hF
  refine z_if_ne (tgt := 12) C (z_n01 hb_r1) dX6_shine_7 (by decide) (fun c3 => ?_) (fun c3 => ?_)
  · have hm := z_pos c3 hm
    refine z_aload_n C dX6_shine_12 0 rfl ?_
    obtain ⟨r_past_4, r_known_5, k6, hm⟩ := z_b2s hm
    refine z_callVvd C (k_X6_keeps l G N r_o r_Atext r_Atold r_Adraft r_Abegun r_As r_Apast r_Aimages r_Arings r_Astates r_Aheld r_Ahere r_Athere r_text r_typed r_told r_draft r_begun r_s r_past r_known r_images r_kept r_rings r_rung r_at r_states r_held r_here r_there h_r_text h_r_typed h_r_told h_r_draft h_r_begun h_r_s h_r_past h_r_known h_r_images h_r_kept h_r_rings h_r_rung h_r_at h_r_states h_r_held h_r_here h_r_there r_past_4 r_known_5 k6) zv_X6_keeps zl_X6_124 dX6_shine_13 rfl 0 rfl rfl rfl [] rfl (Nat.le_of_ble_eq_true rfl) ⟨Nat.le_of_ble_eq_true rfl, Nat.le_of_ble_eq_true rfl⟩ ⟨rfl, rfl⟩ ⟨Nat.zero_le _, Nat.zero_le _⟩ (fun hF => ?_)
    obtain ⟨h_r_past_4, h_r_known_5, -⟩ := hF
    refine z_iconst C dX6_shine_16 ?_
    refine z_istore_n C dX6_shine_17 (by decide) (L' := [(2, z_i 0), (0, .ref r_o), (1, z_i x1)]) rfl ?_
    obtain ⟨o_r_s_1, hl, hm⟩ := z_b1s hm
    have JX1 : z_r o_r_s_1 → z_J X 0 0 ([(r_o, z_o 6 [.ref r_Atext, z_i r_typed, .ref r_Atold, .ref r_Adraft, .ref r_Abegun, .ref r_As, .ref r_Apast, z_i r_known_5, .ref r_Aimages, z_i r_kept, .ref r_Arings, z_i r_rung, z_i r_at, .ref r_Astates, .ref r_Aheld, .ref r_Ahere, .ref r_Athere]), (r_Atext, z_a G.2.1 200 r_text), (r_Atold, z_a G.2.1 39 r_told), (r_Adraft, z_a G.2.1 39 r_draft), (r_Abegun, z_a G.2.1 73 r_begun), (r_As, z_a G.2.1 73 o_r_s_1), (r_Apast, z_a G.2.1 584 r_past_4), (r_Aimages, z_a G.2.1 146 r_images), (r_Arings, z_a G.2.1 6 r_rings), (r_Astates, z_a G.2.1 36 r_states), (r_Aheld, z_a G.2.1 73 r_held), (r_Ahere, z_a G.2.2.2.2 36 r_here), (r_Athere, z_a G.2.2.2.2 36 r_there)]) [(0, .ref r_o)] 33 [] := by
      intro h_o_r_s_1
      clear hl
      refine z_aload_n C dX6_shine_33 0 rfl ?_
      refine z_get C zf_X6_22 dX6_shine_34 0 rfl rfl ?_
      refine z_bipush C dX6_shine_37 (by decide) ?_
      obtain ⟨c11, hm⟩ := z_chk_some hm
      refine z_iald C dX6_shine_39 5 rfl c11 (z_k 72 rfl) ?_
      cases hm
      exact z_iret C E dX6_shine_40 ⟨rfl, rfl, (h_o_r_s_1 _), h_o_r_s_1, h_r_past_4, h_r_known_5, trivial⟩
    clear hm
    have L1 : ∀ (n1 : Nat) (v2_1 : Int) (r_s_1 : (Int → Int)), z_n v2_1 → z_r r_s_1 → m_X6_shine_l1 N x1 r_told n1 v2_1 r_s_1 = some (o_r_s_1) → z_J X 0 0 ([(r_o, z_o 6 [.ref r_Atext, z_i r_typed, .ref r_Atold, .ref r_Adraft, .ref r_Abegun, .ref r_As, .ref r_Apast, z_i r_known_5, .ref r_Aimages, z_i r_kept, .ref r_Arings, z_i r_rung, z_i r_at, .ref r_Astates, .ref r_Aheld, .ref r_Ahere, .ref r_Athere]), (r_Atext, z_a G.2.1 200 r_text), (r_Atold, z_a G.2.1 39 r_told), (r_Adraft, z_a G.2.1 39 r_draft), (r_Abegun, z_a G.2.1 73 r_begun), (r_As, z_a G.2.1 73 r_s_1), (r_Apast, z_a G.2.1 584 r_past_4), (r_Aimages, z_a G.2.1 146 r_images), (r_Arings, z_a G.2.1 6 r_rings), (r_Astates, z_a G.2.1 36 r_states), (r_Aheld, z_a G.2.1 73 r_held), (r_Ahere, z_a G.2.2.2.2 36 r_here), (r_Athere, z_a G.2.2.2.2 36 r_there)]) [(0, .ref r_o), (1, z_i x1), (2, z_i v2_1)] 18 [] := by
      clear hl
      intro n1
      induction n1 with
      | zero =>
        intro v2_1 r_s_1 h_v2_1 h_r_s_1 hm
        rw [m_X6_shine_l1] at hm
        cases hm
      | succ n1 ih1 =>
        intro v2_1 r_s_1 h_v2_1 h_r_s_1 hm
        rw [m_X6_shine_l1] at hm
        refine z_iload_n C dX6_shine_18 2 rfl ?_
        refine z_iload_n C dX6_shine_19 1 rfl ?_
        refine z_icmp_ge (tgt := 33) C h_v2_1 h_x1 dX6_shine_20 (by decide) (fun c7 => ?_) (fun c7 => ?_)
        · have hm := z_pos c7 hm
          refine z_sub (L' := [(0, .ref r_o)]) [0] rfl ?_
          cases hm
          exact JX1 h_r_s_1
        · have hm := z_neg c7 hm
          refine z_aload_n C dX6_shine_23 0 rfl ?_
          obtain ⟨r_s_8, k9, hm⟩ := z_b1s hm
          refine z_callVvd C (k_X6_shines l G N r_o r_Atext r_Atold r_Adraft r_Abegun r_As r_Apast r_Aimages r_Arings r_Astates r_Aheld r_Ahere r_Athere r_text r_typed r_told r_draft r_begun r_s_1 r_past_4 r_known_5 r_images r_kept r_rings r_rung r_at r_states r_held r_here r_there h_r_text h_r_typed h_r_told h_r_draft h_r_begun h_r_s_1 h_r_past_4 h_r_known_5 h_r_images h_r_kept h_r_rings h_r_rung h_r_at h_r_states h_r_held h_r_here h_r_there r_s_8 k9) zv_X6_shines zl_X6_134 dX6_shine_24 rfl 0 rfl rfl rfl [] rfl (Nat.le_of_ble_eq_true rfl) ⟨Nat.le_of_ble_eq_true rfl, Nat.le_of_ble_eq_true rfl⟩ ⟨rfl, rfl⟩ ⟨Nat.zero_le _, Nat.zero_le _⟩ (fun hF => ?_)
          obtain ⟨h_r_s_8, -⟩ := hF
          obtain ⟨c10, hm⟩ := z_chk_some hm
          refine z_iinc C dX6_shine_27 2 rfl (by decide) (L' := [(2, z_i (v2_1 + 1)), (0, .ref r_o), (1, z_i x1)]) rfl ?_
          refine z_goto (tgt := 18) C dX6_shine_30 (by decide) ?_
          refine z_sub (L' := [(0, .ref r_o), (1, z_i x1), (2, z_i (v2_1 + 1))]) [1, 2, 0] rfl ?_
          exact ih1 (v2_1 + 1) r_s_8 c10 h_r_s_8 hm
    refine z_sub (L' := [(0, .ref r_o), (1, z_i x1), (2, z_i 0)]) [1, 2, 0] rfl ?_
    exact L1 N 0 r_s (z_k 0 rfl) h_r_s hl
  · have hm := z_neg c3 hm
    refine z_iconst C dX6_shine_10 ?_
    cases hm
    exact z_iret C E dX6_shine_11 ⟨rfl, rfl, (z_k (-1) rfl), h_r_s, h_r_past, h_r_known, trivial⟩
set_option maxRecDepth 100000 in
theorem k_X6_boot (l : Launch) (G : z_G) (N : Nat) (r_o r_Atext r_Atold r_Adraft r_Abegun r_As r_Apast r_Aimages r_Arings r_Astates r_Aheld r_Ahere r_Athere : Nat) (r_text : (Int → Int)) (r_typed : Int) (r_told : (Int → Int)) (r_draft : (Int → Int)) (r_begun : (Int → Int)) (r_s : (Int → Int)) (r_past : (Int → Int)) (r_known : Int) (r_images : (Int → Int)) (r_kept : Int) (r_rings : (Int → Int)) (r_rung : Int) (r_at : Int) (r_states : (Int → Int)) (r_held : (Int → Int)) (r_here : (Int → Int)) (r_there : (Int → Int)) (x1 : Int) (h_r_text : z_r r_text) (h_r_typed : z_n r_typed) (h_r_told : z_r r_told) (h_r_draft : z_r r_draft) (h_r_begun : z_r r_begun) (h_r_s : z_r r_s) (h_r_past : z_r r_past) (h_r_known : z_n r_known) (h_r_images : z_r r_images) (h_r_kept : z_n r_kept) (h_r_rings : z_r r_rings) (h_r_rung : z_n r_rung) (h_r_at : z_n r_at) (h_r_states : z_r r_states) (h_r_held : z_r r_held) (h_r_here : z_r r_here) (h_r_there : z_r r_there) (h_x1 : z_n x1) (rr : Int) (q_r_s : (Int → Int)) (q_r_past : (Int → Int)) (q_r_known : Int) (hm : m_X6_boot N r_told r_s r_past r_known x1 = some (rr, q_r_s, q_r_past, q_r_known)) : z_M l G yX6_boot cX6_boot 4 (some .int) (k2_rm 5 117) [.ref r_o, z_i x1] ([(r_o, z_o 6 [.ref r_Atext, z_i r_typed, .ref r_Atold, .ref r_Adraft, .ref r_Abegun, .ref r_As, .ref r_Apast, z_i r_known, .ref r_Aimages, z_i r_kept, .ref r_Arings, z_i r_rung, z_i r_at, .ref r_Astates, .ref r_Aheld, .ref r_Ahere, .ref r_Athere]), (r_Atext, z_a G.2.1 200 r_text), (r_Atold, z_a G.2.1 39 r_told), (r_Adraft, z_a G.2.1 39 r_draft), (r_Abegun, z_a G.2.1 73 r_begun), (r_As, z_a G.2.1 73 r_s), (r_Apast, z_a G.2.1 584 r_past), (r_Aimages, z_a G.2.1 146 r_images), (r_Arings, z_a G.2.1 6 r_rings), (r_Astates, z_a G.2.1 36 r_states), (r_Aheld, z_a G.2.1 73 r_held), (r_Ahere, z_a G.2.2.2.2 36 r_here), (r_Athere, z_a G.2.2.2.2 36 r_there)]) 0 0 (fun v w => v = some (z_i rr) ∧ w = [(r_o, z_o 6 [.ref r_Atext, z_i r_typed, .ref r_Atold, .ref r_Adraft, .ref r_Abegun, .ref r_As, .ref r_Apast, z_i q_r_known, .ref r_Aimages, z_i r_kept, .ref r_Arings, z_i r_rung, z_i r_at, .ref r_Astates, .ref r_Aheld, .ref r_Ahere, .ref r_Athere]), (r_Atext, z_a G.2.1 200 r_text), (r_Atold, z_a G.2.1 39 r_told), (r_Adraft, z_a G.2.1 39 r_draft), (r_Abegun, z_a G.2.1 73 r_begun), (r_As, z_a G.2.1 73 q_r_s), (r_Apast, z_a G.2.1 584 q_r_past), (r_Aimages, z_a G.2.1 146 r_images), (r_Arings, z_a G.2.1 6 r_rings), (r_Astates, z_a G.2.1 36 r_states), (r_Aheld, z_a G.2.1 73 r_held), (r_Ahere, z_a G.2.2.2.2 36 r_here), (r_Athere, z_a G.2.2.2.2 36 r_there)] ∧ z_n rr ∧ z_r q_r_s ∧ z_r q_r_past ∧ z_n q_r_known ∧ True) := by
  unfold m_X6_boot at hm
  refine z_M.intro (by decide +kernel) (Nat.le_of_ble_eq_true rfl) (L := [(0, .ref r_o), (1, z_i x1)]) rfl (fun X C E => ?_)
  refine z_aload_n C dX6_boot_0 0 rfl ?_
  refine z_iload_n C dX6_boot_1 1 rfl ?_
  obtain ⟨r1, k2, hm⟩ := z_b1s hm
  refine z_callVid C (k_X6_isCell l G N r_o r_Atext r_Atold r_Adraft r_Abegun r_As r_Apast r_Aimages r_Arings r_Astates r_Aheld r_Ahere r_Athere r_text r_typed r_told r_draft r_begun r_s r_past r_known r_images r_kept r_rings r_rung r_at r_states r_held r_here r_there x1 h_r_text h_r_typed h_r_told h_r_draft h_r_begun h_r_s h_r_past h_r_known h_r_images h_r_kept h_r_rings h_r_rung h_r_at h_r_states h_r_held h_r_here h_r_there h_x1 r1 k2) zv_X6_isCell zl_X6_98 dX6_boot_2 rfl 0 rfl rfl rfl [] rfl (Nat.le_of_ble_eq_true rfl) ⟨Nat.le_of_ble_eq_true rfl, Nat.le_of_ble_eq_true rfl⟩ ⟨rfl, rfl⟩ ⟨Nat.zero_le _, Nat.zero_le _⟩ (fun hF => ?_)
  obtain ⟨hb_r1, -⟩ := hF
  refine z_if_ne (tgt := 10) C (z_n01 hb_r1) dX6_boot_5 (by decide) (fun c3 => ?_) (fun c3 => ?_)
  · have hm := z_pos c3 hm
    refine z_aload_n C dX6_boot_10 0 rfl ?_
    refine z_get C zf_X6_22 dX6_boot_11 0 rfl rfl ?_
    refine z_iload_n C dX6_boot_14 1 rfl ?_
    obtain ⟨c4, hm⟩ := z_chk_some hm
    refine z_iald C dX6_boot_15 5 rfl c4 h_x1 ?_
    refine z_if_ne (tgt := 22) C (h_r_s _) dX6_boot_16 (by decide) (fun c5 => ?_) (fun c5 => ?_)
    · have hm := z_pos c5 hm
      refine z_aload_n C dX6_boot_22 0 rfl ?_
      obtain ⟨r_past_6, r_known_7, k8, hm⟩ := z_b2s hm
      refine z_callVvd C (k_X6_keeps l G N r_o r_Atext r_Atold r_Adraft r_Abegun r_As r_Apast r_Aimages r_Arings r_Astates r_Aheld r_Ahere r_Athere r_text r_typed r_told r_draft r_begun r_s r_past r_known r_images r_kept r_rings r_rung r_at r_states r_held r_here r_there h_r_text h_r_typed h_r_told h_r_draft h_r_begun h_r_s h_r_past h_r_known h_r_images h_r_kept h_r_rings h_r_rung h_r_at h_r_states h_r_held h_r_here h_r_there r_past_6 r_known_7 k8) zv_X6_keeps zl_X6_124 dX6_boot_23 rfl 0 rfl rfl rfl [] rfl (Nat.le_of_ble_eq_true rfl) ⟨Nat.le_of_ble_eq_true rfl, Nat.le_of_ble_eq_true rfl⟩ ⟨rfl, rfl⟩ ⟨Nat.zero_le _, Nat.zero_le _⟩ (fun hF => ?_)
      obtain ⟨h_r_past_6, h_r_known_7, -⟩ := hF
      refine z_iconst C dX6_boot_26 ?_
      refine z_istore_n C dX6_boot_27 (by decide) (L' := [(2, z_i 0), (0, .ref r_o), (1, z_i x1)]) rfl ?_
      obtain ⟨o_r_s_1, hl, hm⟩ := z_b1s hm
      have JX1 : z_r o_r_s_1 → z_J X 0 0 ([(r_o, z_o 6 [.ref r_Atext, z_i r_typed, .ref r_Atold, .ref r_Adraft, .ref r_Abegun, .ref r_As, .ref r_Apast, z_i r_known_7, .ref r_Aimages, z_i r_kept, .ref r_Arings, z_i r_rung, z_i r_at, .ref r_Astates, .ref r_Aheld, .ref r_Ahere, .ref r_Athere]), (r_Atext, z_a G.2.1 200 r_text), (r_Atold, z_a G.2.1 39 r_told), (r_Adraft, z_a G.2.1 39 r_draft), (r_Abegun, z_a G.2.1 73 r_begun), (r_As, z_a G.2.1 73 o_r_s_1), (r_Apast, z_a G.2.1 584 r_past_6), (r_Aimages, z_a G.2.1 146 r_images), (r_Arings, z_a G.2.1 6 r_rings), (r_Astates, z_a G.2.1 36 r_states), (r_Aheld, z_a G.2.1 73 r_held), (r_Ahere, z_a G.2.2.2.2 36 r_here), (r_Athere, z_a G.2.2.2.2 36 r_there)]) [(0, .ref r_o), (1, z_i x1)] 65 [] := by
        intro h_o_r_s_1
        clear hl
        refine z_aload_n C dX6_boot_65 0 rfl ?_
        obtain ⟨r_s_20, k21, hm⟩ := z_b1s hm
        refine z_callVvd C (k_X6_flows l G N r_o r_Atext r_Atold r_Adraft r_Abegun r_As r_Apast r_Aimages r_Arings r_Astates r_Aheld r_Ahere r_Athere r_text r_typed r_told r_draft r_begun o_r_s_1 r_past_6 r_known_7 r_images r_kept r_rings r_rung r_at r_states r_held r_here r_there h_r_text h_r_typed h_r_told h_r_draft h_r_begun h_o_r_s_1 h_r_past_6 h_r_known_7 h_r_images h_r_kept h_r_rings h_r_rung h_r_at h_r_states h_r_held h_r_here h_r_there r_s_20 k21) zv_X6_flows zl_X6_86 dX6_boot_66 rfl 0 rfl rfl rfl [] rfl (Nat.le_of_ble_eq_true rfl) ⟨Nat.le_of_ble_eq_true rfl, Nat.le_of_ble_eq_true rfl⟩ ⟨rfl, rfl⟩ ⟨Nat.zero_le _, Nat.zero_le _⟩ (fun hF => ?_)
        obtain ⟨h_r_s_20, -⟩ := hF
        refine z_aload_n C dX6_boot_69 0 rfl ?_
        refine z_get C zf_X6_22 dX6_boot_70 0 rfl rfl ?_
        refine z_iload_n C dX6_boot_73 1 rfl ?_
        obtain ⟨c22, hm⟩ := z_chk_some hm
        refine z_iald C dX6_boot_74 5 rfl c22 h_x1 ?_
        cases hm
        exact z_iret C E dX6_boot_75 ⟨rfl, rfl, (h_r_s_20 _), h_r_s_20, h_r_past_6, h_r_known_7, trivial⟩
      clear hm
      have L1 : ∀ (n1 : Nat) (v2_1 : Int) (r_s_1 : (Int → Int)), z_n v2_1 → z_r r_s_1 → m_X6_boot_l1 N r_told x1 n1 v2_1 r_s_1 = some (o_r_s_1) → z_J X 0 0 ([(r_o, z_o 6 [.ref r_Atext, z_i r_typed, .ref r_Atold, .ref r_Adraft, .ref r_Abegun, .ref r_As, .ref r_Apast, z_i r_known_7, .ref r_Aimages, z_i r_kept, .ref r_Arings, z_i r_rung, z_i r_at, .ref r_Astates, .ref r_Aheld, .ref r_Ahere, .ref r_Athere]), (r_Atext, z_a G.2.1 200 r_text), (r_Atold, z_a G.2.1 39 r_told), (r_Adraft, z_a G.2.1 39 r_draft), (r_Abegun, z_a G.2.1 73 r_begun), (r_As, z_a G.2.1 73 r_s_1), (r_Apast, z_a G.2.1 584 r_past_6), (r_Aimages, z_a G.2.1 146 r_images), (r_Arings, z_a G.2.1 6 r_rings), (r_Astates, z_a G.2.1 36 r_states), (r_Aheld, z_a G.2.1 73 r_held), (r_Ahere, z_a G.2.2.2.2 36 r_here), (r_Athere, z_a G.2.2.2.2 36 r_there)]) [(0, .ref r_o), (1, z_i x1), (2, z_i v2_1)] 28 [] := by
        clear hl
        intro n1
        induction n1 with
        | zero =>
          intro v2_1 r_s_1 h_v2_1 h_r_s_1 hm
          rw [m_X6_boot_l1] at hm
          cases hm
        | succ n1 ih1 =>
          intro v2_1 r_s_1 h_v2_1 h_r_s_1 hm
          rw [m_X6_boot_l1] at hm
          refine z_iload_n C dX6_boot_28 2 rfl ?_
          refine z_iconst C dX6_boot_29 ?_
          refine z_icmp_ge (tgt := 65) C h_v2_1 (z_k 4 rfl) dX6_boot_30 (by decide) (fun c9 => ?_) (fun c9 => ?_)
          · have hm := z_pos c9 hm
            refine z_sub (L' := [(0, .ref r_o), (1, z_i x1)]) [0, 1] rfl ?_
            cases hm
            exact JX1 h_r_s_1
          · have hm := z_neg c9 hm
            refine z_aload_n C dX6_boot_33 0 rfl ?_
            refine z_iload_n C dX6_boot_34 1 rfl ?_
            refine z_iload_n C dX6_boot_35 2 rfl ?_
            obtain ⟨r10, k11, hm⟩ := z_b1s hm
            refine z_callVid C (k_X6_beside l G N r_o r_Atext r_Atold r_Adraft r_Abegun r_As r_Apast r_Aimages r_Arings r_Astates r_Aheld r_Ahere r_Athere r_text r_typed r_told r_draft r_begun r_s_1 r_past_6 r_known_7 r_images r_kept r_rings r_rung r_at r_states r_held r_here r_there x1 v2_1 h_r_text h_r_typed h_r_told h_r_draft h_r_begun h_r_s_1 h_r_past_6 h_r_known_7 h_r_images h_r_kept h_r_rings h_r_rung h_r_at h_r_states h_r_held h_r_here h_r_there h_x1 h_v2_1 r10 k11) zv_X6_beside zl_X6_101 dX6_boot_36 rfl 0 rfl rfl rfl [] rfl (Nat.le_of_ble_eq_true rfl) ⟨Nat.le_of_ble_eq_true rfl, Nat.le_of_ble_eq_true rfl⟩ ⟨rfl, rfl⟩ ⟨Nat.zero_le _, Nat.zero_le _⟩ (fun hF => ?_)
            obtain ⟨h_r10, -⟩ := hF
            refine z_istore_n C dX6_boot_39 (by decide) (L' := [(3, z_i r10), (0, .ref r_o), (1, z_i x1), (2, z_i v2_1)]) rfl ?_
            refine z_iload_n C dX6_boot_40 0 rfl ?_
            refine z_if_lt (tgt := 59) C h_r10 dX6_boot_41 (by decide) (fun c12 => ?_) (fun c12 => ?_)
            · have hm := z_pos c12 hm
              obtain ⟨c13, hm⟩ := z_chk_some hm
              refine z_iinc C dX6_boot_59 3 rfl (by decide) (L' := [(2, z_i (v2_1 + 1)), (3, z_i r10), (0, .ref r_o), (1, z_i x1)]) rfl ?_
              refine z_goto (tgt := 28) C dX6_boot_62 (by decide) ?_
              refine z_sub (L' := [(0, .ref r_o), (1, z_i x1), (2, z_i (v2_1 + 1))]) [2, 3, 0] rfl ?_
              exact ih1 (v2_1 + 1) r_s_1 c13 h_r_s_1 hm
            · have hm := z_neg c12 hm
              refine z_aload_n C dX6_boot_44 1 rfl ?_
              refine z_get C zf_X6_22 dX6_boot_45 0 rfl rfl ?_
              refine z_iload_n C dX6_boot_48 2 rfl ?_
              obtain ⟨c14, hm⟩ := z_chk_some hm
              refine z_iald C dX6_boot_49 5 rfl c14 h_x1 ?_
              refine z_if_le (tgt := 59) C (h_r_s_1 _) dX6_boot_50 (by decide) (fun c15 => ?_) (fun c15 => ?_)
              · have hm := z_pos c15 hm
                obtain ⟨c16, hm⟩ := z_chk_some hm
                refine z_iinc C dX6_boot_59 3 rfl (by decide) (L' := [(2, z_i (v2_1 + 1)), (3, z_i r10), (0, .ref r_o), (1, z_i x1)]) rfl ?_
                refine z_goto (tgt := 28) C dX6_boot_62 (by decide) ?_
                refine z_sub (L' := [(0, .ref r_o), (1, z_i x1), (2, z_i (v2_1 + 1))]) [2, 3, 0] rfl ?_
                exact ih1 (v2_1 + 1) r_s_1 c16 h_r_s_1 hm
              · have hm := z_neg c15 hm
                refine z_aload_n C dX6_boot_53 1 rfl ?_
                refine z_iload_n C dX6_boot_54 2 rfl ?_
                refine z_iload_n C dX6_boot_55 0 rfl ?_
                obtain ⟨r_s_17, k18, hm⟩ := z_b1s hm
                refine z_callVvd C (k_X6_drops l G N r_o r_Atext r_Atold r_Adraft r_Abegun r_As r_Apast r_Aimages r_Arings r_Astates r_Aheld r_Ahere r_Athere r_text r_typed r_told r_draft r_begun r_s_1 r_past_6 r_known_7 r_images r_kept r_rings r_rung r_at r_states r_held r_here r_there x1 r10 h_r_text h_r_typed h_r_told h_r_draft h_r_begun h_r_s_1 h_r_past_6 h_r_known_7 h_r_images h_r_kept h_r_rings h_r_rung h_r_at h_r_states h_r_held h_r_here h_r_there h_x1 h_r10 r_s_17 k18) zv_X6_drops zl_X6_108 dX6_boot_56 rfl 0 rfl rfl rfl [] rfl (Nat.le_of_ble_eq_true rfl) ⟨Nat.le_of_ble_eq_true rfl, Nat.le_of_ble_eq_true rfl⟩ ⟨rfl, rfl⟩ ⟨Nat.zero_le _, Nat.zero_le _⟩ (fun hF => ?_)
                obtain ⟨h_r_s_17, -⟩ := hF
                obtain ⟨c19, hm⟩ := z_chk_some hm
                refine z_iinc C dX6_boot_59 3 rfl (by decide) (L' := [(2, z_i (v2_1 + 1)), (3, z_i r10), (0, .ref r_o), (1, z_i x1)]) rfl ?_
                refine z_goto (tgt := 28) C dX6_boot_62 (by decide) ?_
                refine z_sub (L' := [(0, .ref r_o), (1, z_i x1), (2, z_i (v2_1 + 1))]) [2, 3, 0] rfl ?_
                exact ih1 (v2_1 + 1) r_s_17 c19 h_r_s_17 hm
      refine z_sub (L' := [(0, .ref r_o), (1, z_i x1), (2, z_i 0)]) [1, 2, 0] rfl ?_
      exact L1 N 0 r_s (z_k 0 rfl) h_r_s hl
    · have hm := z_neg c5 hm
      refine z_bipush C dX6_boot_19 (by decide) ?_
      cases hm
      exact z_iret C E dX6_boot_21 ⟨rfl, rfl, (z_k (-2) rfl), h_r_s, h_r_past, h_r_known, trivial⟩
  · have hm := z_neg c3 hm
    refine z_iconst C dX6_boot_8 ?_
    cases hm
    exact z_iret C E dX6_boot_9 ⟨rfl, rfl, (z_k (-1) rfl), h_r_s, h_r_past, h_r_known, trivial⟩
