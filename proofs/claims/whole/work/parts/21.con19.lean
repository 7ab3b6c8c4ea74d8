set_option maxRecDepth 100000 in
theorem k_X6_fault (l : Launch) (G : z_G) (N : Nat) (r_o r_Atext r_Atold r_Adraft r_Abegun r_As r_Apast r_Aimages r_Arings r_Astates r_Aheld r_Ahere r_Athere : Nat) (r_text : (Int → Int)) (r_typed : Int) (r_told : (Int → Int)) (r_draft : (Int → Int)) (r_begun : (Int → Int)) (r_s : (Int → Int)) (r_past : (Int → Int)) (r_known : Int) (r_images : (Int → Int)) (r_kept : Int) (r_rings : (Int → Int)) (r_rung : Int) (r_at : Int) (r_states : (Int → Int)) (r_held : (Int → Int)) (r_here : (Int → Int)) (r_there : (Int → Int)) (h_r_text : z_r r_text) (h_r_typed : z_n r_typed) (h_r_told : z_r r_told) (h_r_draft : z_r r_draft) (h_r_begun : z_r r_begun) (h_r_s : z_r r_s) (h_r_past : z_r r_past) (h_r_known : z_n r_known) (h_r_images : z_r r_images) (h_r_kept : z_n r_kept) (h_r_rings : z_r r_rings) (h_r_rung : z_n r_rung) (h_r_at : z_n r_at) (h_r_states : z_r r_states) (h_r_held : z_r r_held) (h_r_here : z_r r_here) (h_r_there : z_r r_there) (rr : Int) (q_r_draft : (Int → Int)) (q_r_begun : (Int → Int)) (q_r_at : Int) (hm : m_X6_fault N r_text r_typed r_draft r_begun r_at = some (rr, q_r_draft, q_r_begun, q_r_at)) : z_M l G yX6_fault cX6_fault 1 (some .int) (k2_rm 5 111) [.ref r_o] ([(r_o, z_o 6 [.ref r_Atext, z_i r_typed, .ref r_Atold, .ref r_Adraft, .ref r_Abegun, .ref r_As, .ref r_Apast, z_i r_known, .ref r_Aimages, z_i r_kept, .ref r_Arings, z_i r_rung, z_i r_at, .ref r_Astates, .ref r_Aheld, .ref r_Ahere, .ref r_Athere]), (r_Atext, z_a G.2.1 200 r_text), (r_Atold, z_a G.2.1 39 r_told), (r_Adraft, z_a G.2.1 39 r_draft), (r_Abegun, z_a G.2.1 73 r_begun), (r_As, z_a G.2.1 73 r_s), (r_Apast, z_a G.2.1 584 r_past), (r_Aimages, z_a G.2.1 146 r_images), (r_Arings, z_a G.2.1 6 r_rings), (r_Astates, z_a G.2.1 36 r_states), (r_Aheld, z_a G.2.1 73 r_held), (r_Ahere, z_a G.2.2.2.2 36 r_here), (r_Athere, z_a G.2.2.2.2 36 r_there)]) 0 0 (fun v w => v = some (z_i rr) ∧ w = [(r_o, z_o 6 [.ref r_Atext, z_i r_typed, .ref r_Atold, .ref r_Adraft, .ref r_Abegun, .ref r_As, .ref r_Apast, z_i r_known, .ref r_Aimages, z_i r_kept, .ref r_Arings, z_i r_rung, z_i q_r_at, .ref r_Astates, .ref r_Aheld, .ref r_Ahere, .ref r_Athere]), (r_Atext, z_a G.2.1 200 r_text), (r_Atold, z_a G.2.1 39 r_told), (r_Adraft, z_a G.2.1 39 q_r_draft), (r_Abegun, z_a G.2.1 73 q_r_begun), (r_As, z_a G.2.1 73 r_s), (r_Apast, z_a G.2.1 584 r_past), (r_Aimages, z_a G.2.1 146 r_images), (r_Arings, z_a G.2.1 6 r_rings), (r_Astates, z_a G.2.1 36 r_states), (r_Aheld, z_a G.2.1 73 r_held), (r_Ahere, z_a G.2.2.2.2 36 r_here), (r_Athere, z_a G.2.2.2.2 36 r_there)] ∧ z_n rr ∧ z_r q_r_draft ∧ z_r q_r_begun ∧ z_n q_r_at ∧ True) := by
  unfold m_X6_fault at hm
  refine z_M.intro (by decide +kernel) (Nat.le_of_ble_eq_true rfl) (L := [(0, .ref r_o)]) rfl (fun X C E => ?_)
  refine z_aload_n C dX6_fault_0 0 rfl ?_
  obtain ⟨r1, r_draft_2, r_begun_3, r_at_4, k5, hm⟩ := z_b4s hm
  refine z_callVid C (k_X6_readsAll l G N r_o r_Atext r_Atold r_Adraft r_Abegun r_As r_Apast r_Aimages r_Arings r_Astates r_Aheld r_Ahere r_Athere r_text r_typed r_told r_draft r_begun r_s r_past r_known r_images r_kept r_rings r_rung r_at r_states r_held r_here r_there h_r_text h_r_typed h_r_told h_r_draft h_r_begun h_r_s h_r_past h_r_known h_r_images h_r_kept h_r_rings h_r_rung h_r_at h_r_states h_r_held h_r_here h_r_there r1 r_draft_2 r_begun_3 r_at_4 k5) zv_X6_readsAll zl_X6_83 dX6_fault_1 rfl 0 rfl rfl rfl [] rfl (Nat.le_of_ble_eq_true rfl) ⟨Nat.le_of_ble_eq_true rfl, Nat.le_of_ble_eq_true rfl⟩ ⟨rfl, rfl⟩ ⟨Nat.zero_le _, Nat.zero_le _⟩ (fun hF => ?_)
  obtain ⟨h_r1, h_r_draft_2, h_r_begun_3, h_r_at_4, -⟩ := hF
  cases hm
  exact z_iret C E dX6_fault_4 ⟨rfl, rfl, h_r1, h_r_draft_2, h_r_begun_3, h_r_at_4, trivial⟩
set_option maxRecDepth 100000 in
theorem k_X6_lay (l : Launch) (G : z_G) (N : Nat) (r_o r_Atext r_Atold r_Adraft r_Abegun r_As r_Apast r_Aimages r_Arings r_Astates r_Aheld r_Ahere r_Athere : Nat) (r_text : (Int → Int)) (r_typed : Int) (r_told : (Int → Int)) (r_draft : (Int → Int)) (r_begun : (Int → Int)) (r_s : (Int → Int)) (r_past : (Int → Int)) (r_known : Int) (r_images : (Int → Int)) (r_kept : Int) (r_rings : (Int → Int)) (r_rung : Int) (r_at : Int) (r_states : (Int → Int)) (r_held : (Int → Int)) (r_here : (Int → Int)) (r_there : (Int → Int)) (h_r_text : z_r r_text) (h_r_typed : z_n r_typed) (h_r_told : z_r r_told) (h_r_draft : z_r r_draft) (h_r_begun : z_r r_begun) (h_r_s : z_r r_s) (h_r_past : z_r r_past) (h_r_known : z_n r_known) (h_r_images : z_r r_images) (h_r_kept : z_n r_kept) (h_r_rings : z_r r_rings) (h_r_rung : z_n r_rung) (h_r_at : z_n r_at) (h_r_states : z_r r_states) (h_r_held : z_r r_held) (h_r_here : z_r r_here) (h_r_there : z_r r_there) (rr : Int) (q_r_told : (Int → Int)) (q_r_draft : (Int → Int)) (q_r_begun : (Int → Int)) (q_r_s : (Int → Int)) (q_r_known : Int) (q_r_kept : Int) (q_r_rung : Int) (q_r_at : Int) (hm : m_X6_lay N r_text r_typed r_told r_draft r_begun r_s r_known r_kept r_rung r_at = some (rr, q_r_told, q_r_draft, q_r_begun, q_r_s, q_r_known, q_r_kept, q_r_rung, q_r_at)) : z_M l G yX6_lay cX6_lay 1 (some .int) (k2_rm 6 138) [.ref r_o] ([(r_o, z_o 6 [.ref r_Atext, z_i r_typed, .ref r_Atold, .ref r_Adraft, .ref r_Abegun, .ref r_As, .ref r_Apast, z_i r_known, .ref r_Aimages, z_i r_kept, .ref r_Arings, z_i r_rung, z_i r_at, .ref r_Astates, .ref r_Aheld, .ref r_Ahere, .ref r_Athere]), (r_Atext, z_a G.2.1 200 r_text), (r_Atold, z_a G.2.1 39 r_told), (r_Adraft, z_a G.2.1 39 r_draft), (r_Abegun, z_a G.2.1 73 r_begun), (r_As, z_a G.2.1 73 r_s), (r_Apast, z_a G.2.1 584 r_past), (r_Aimages, z_a G.2.1 146 r_images), (r_Arings, z_a G.2.1 6 r_rings), (r_Astates, z_a G.2.1 36 r_states), (r_Aheld, z_a G.2.1 73 r_held), (r_Ahere, z_a G.2.2.2.2 36 r_here), (r_Athere, z_a G.2.2.2.2 36 r_there)]) 0 0 (fun v w => v = some (z_i rr) ∧ w = [(r_o, z_o 6 [.ref r_Atext, z_i r_typed, .ref r_Atold, .ref r_Adraft, .ref r_Abegun, .ref r_As, .ref r_Apast, z_i q_r_known, .ref r_Aimages, z_i q_r_kept, .ref r_Arings, z_i q_r_rung, z_i q_r_at, .ref r_Astates, .ref r_Aheld, .ref r_Ahere, .ref r_Athere]), (r_Atext, z_a G.2.1 200 r_text), (r_Atold, z_a G.2.1 39 q_r_told), (r_Adraft, z_a G.2.1 39 q_r_draft), (r_Abegun, z_a G.2.1 73 q_r_begun), (r_As, z_a G.2.1 73 q_r_s), (r_Apast, z_a G.2.1 584 r_past), (r_Aimages, z_a G.2.1 146 r_images), (r_Arings, z_a G.2.1 6 r_rings), (r_Astates, z_a G.2.1 36 r_states), (r_Aheld, z_a G.2.1 73 r_held), (r_Ahere, z_a G.2.2.2.2 36 r_here), (r_Athere, z_a G.2.2.2.2 36 r_there)] ∧ z_n rr ∧ z_r q_r_told ∧ z_r q_r_draft ∧ z_r q_r_begun ∧ z_r q_r_s ∧ z_n q_r_known ∧ z_n q_r_kept ∧ z_n q_r_rung ∧ z_n q_r_at ∧ True) := by
  unfold m_X6_lay at hm
  refine z_M.intro (by decide +kernel) (Nat.le_of_ble_eq_true rfl) (L := [(0, .ref r_o)]) rfl (fun X C E => ?_)
  refine z_aload_n C dX6_lay_0 0 rfl ?_
  refine z_get C zf_X6_61 dX6_lay_1 0 rfl rfl ?_
  refine z_if_eq (tgt := 16) C h_r_typed dX6_lay_4 (by decide) (fun c1 => ?_) (fun c1 => ?_)
  · have hm := z_pos c1 hm
    refine z_bipush C dX6_lay_16 (by decide) ?_
    cases hm
    exact z_iret C E dX6_lay_18 ⟨rfl, rfl, (z_k (-2) rfl), h_r_told, h_r_draft, h_r_begun, h_r_s, h_r_known, h_r_kept, h_r_rung, h_r_at, trivial⟩
  · have hm := z_neg c1 hm
    refine z_aload_n C dX6_lay_7 0 rfl ?_
    obtain ⟨r2, r_draft_3, r_begun_4, r_at_5, k6, hm⟩ := z_b4s hm
    refine z_callVid C (k_X6_readsAll l G N r_o r_Atext r_Atold r_Adraft r_Abegun r_As r_Apast r_Aimages r_Arings r_Astates r_Aheld r_Ahere r_Athere r_text r_typed r_told r_draft r_begun r_s r_past r_known r_images r_kept r_rings r_rung r_at r_states r_held r_here r_there h_r_text h_r_typed h_r_told h_r_draft h_r_begun h_r_s h_r_past h_r_known h_r_images h_r_kept h_r_rings h_r_rung h_r_at h_r_states h_r_held h_r_here h_r_there r2 r_draft_3 r_begun_4 r_at_5 k6) zv_X6_readsAll zl_X6_83 dX6_lay_8 rfl 0 rfl rfl rfl [] rfl (Nat.le_of_ble_eq_true rfl) ⟨Nat.le_of_ble_eq_true rfl, Nat.le_of_ble_eq_true rfl⟩ ⟨rfl, rfl⟩ ⟨Nat.zero_le _, Nat.zero_le _⟩ (fun hF => ?_)
    obtain ⟨h_r2, h_r_draft_3, h_r_begun_4, h_r_at_5, -⟩ := hF
    refine z_bipush C dX6_lay_11 (by decide) ?_
    refine z_icmp_eq (tgt := 19) C h_r2 (z_k (-4) rfl) dX6_lay_13 (by decide) (fun c7 => ?_) (fun c7 => ?_)
    · have hm := z_pos c7 hm
      refine z_aload_n C dX6_lay_19 0 rfl ?_
      obtain ⟨r_told_8, r_s_9, r_known_10, r_kept_11, r_rung_12, k13, hm⟩ := z_b5s hm
      refine z_callVvd C (k_X6_lays l G N r_o r_Atext r_Atold r_Adraft r_Abegun r_As r_Apast r_Aimages r_Arings r_Astates r_Aheld r_Ahere r_Athere r_text r_typed r_told r_draft_3 r_begun_4 r_s r_past r_known r_images r_kept r_rings r_rung r_at_5 r_states r_held r_here r_there h_r_text h_r_typed h_r_told h_r_draft_3 h_r_begun_4 h_r_s h_r_past h_r_known h_r_images h_r_kept h_r_rings h_r_rung h_r_at_5 h_r_states h_r_held h_r_here h_r_there r_told_8 r_s_9 r_known_10 r_kept_11 r_rung_12 k13) zv_X6_lays zl_X6_50 dX6_lay_20 rfl 0 rfl rfl rfl [] rfl (Nat.le_of_ble_eq_true rfl) ⟨Nat.le_of_ble_eq_true rfl, Nat.le_of_ble_eq_true rfl⟩ ⟨rfl, rfl⟩ ⟨Nat.zero_le _, Nat.zero_le _⟩ (fun hF => ?_)
      obtain ⟨h_r_told_8, h_r_s_9, h_r_known_10, h_r_kept_11, h_r_rung_12, -⟩ := hF
      refine z_aload_n C dX6_lay_23 0 rfl ?_
      obtain ⟨r14, k15, hm⟩ := z_b1s hm
      refine z_callVid C (k_X6_cells l G N r_o r_Atext r_Atold r_Adraft r_Abegun r_As r_Apast r_Aimages r_Arings r_Astates r_Aheld r_Ahere r_Athere r_text r_typed r_told_8 r_draft_3 r_begun_4 r_s_9 r_past r_known_10 r_images r_kept_11 r_rings r_rung_12 r_at_5 r_states r_held r_here r_there h_r_text h_r_typed h_r_told_8 h_r_draft_3 h_r_begun_4 h_r_s_9 h_r_past h_r_known_10 h_r_images h_r_kept_11 h_r_rings h_r_rung_12 h_r_at_5 h_r_states h_r_held h_r_here h_r_there r14 k15) zv_X6_cells zl_X6_53 dX6_lay_24 rfl 0 rfl rfl rfl [] rfl (Nat.le_of_ble_eq_true rfl) ⟨Nat.le_of_ble_eq_true rfl, Nat.le_of_ble_eq_true rfl⟩ ⟨rfl, rfl⟩ ⟨Nat.zero_le _, Nat.zero_le _⟩ (fun hF => ?_)
      obtain ⟨h_r14, -⟩ := hF
      cases hm
      exact z_iret C E dX6_lay_27 ⟨rfl, rfl, h_r14, h_r_told_8, h_r_draft_3, h_r_begun_4, h_r_s_9, h_r_known_10, h_r_kept_11, h_r_rung_12, h_r_at_5, trivial⟩
    · have hm := z_neg c7 hm
      refine z_bipush C dX6_lay_16 (by decide) ?_
      cases hm
      exact z_iret C E dX6_lay_18 ⟨rfl, rfl, (z_k (-2) rfl), h_r_told, h_r_draft_3, h_r_begun_4, h_r_s, h_r_known, h_r_kept, h_r_rung, h_r_at_5, trivial⟩
set_option maxRecDepth 100000 in
theorem k_X6_laysStates (l : Launch) (G : z_G) (N : Nat) (r_o r_Atext r_Atold r_Adraft r_Abegun r_As r_Apast r_Aimages r_Arings r_Astates r_Aheld r_Ahere r_Athere : Nat) (r_text : (Int → Int)) (r_typed : Int) (r_told : (Int → Int)) (r_draft : (Int → Int)) (r_begun : (Int → Int)) (r_s : (Int → Int)) (r_past : (Int → Int)) (r_known : Int) (r_images : (Int → Int)) (r_kept : Int) (r_rings : (Int → Int)) (r_rung : Int) (r_at : Int) (r_states : (Int → Int)) (r_held : (Int → Int)) (r_here : (Int → Int)) (r_there : (Int → Int)) (h_r_text : z_r r_text) (h_r_typed : z_n r_typed) (h_r_told : z_r r_told) (h_r_draft : z_r r_draft) (h_r_begun : z_r r_begun) (h_r_s : z_r r_s) (h_r_past : z_r r_past) (h_r_known : z_n r_known) (h_r_images : z_r r_images) (h_r_kept : z_n r_kept) (h_r_rings : z_r r_rings) (h_r_rung : z_n r_rung) (h_r_at : z_n r_at) (h_r_states : z_r r_states) (h_r_held : z_r r_held) (h_r_here : z_r r_here) (h_r_there : z_r r_there) (q_r_states : (Int → Int)) (hm : m_X6_laysStates N r_told r_s r_states = some (q_r_states)) : z_M l G yX6_laysStates cX6_laysStates 5 none (k2_rm 3 68) [.ref r_o] ([(r_o, z_o 6 [.ref r_Atext, z_i r_typed, .ref r_Atold, .ref r_Adraft, .ref r_Abegun, .ref r_As, .ref r_Apast, z_i r_known, .ref r_Aimages, z_i r_kept, .ref r_Arings, z_i r_rung, z_i r_at, .ref r_Astates, .ref r_Aheld, .ref r_Ahere, .ref r_Athere]), (r_Atext, z_a G.2.1 200 r_text), (r_Atold, z_a G.2.1 39 r_told), (r_Adraft, z_a G.2.1 39 r_draft), (r_Abegun, z_a G.2.1 73 r_begun), (r_As, z_a G.2.1 73 r_s), (r_Apast, z_a G.2.1 584 r_past), (r_Aimages, z_a G.2.1 146 r_images), (r_Arings, z_a G.2.1 6 r_rings), (r_Astates, z_a G.2.1 36 r_states), (r_Aheld, z_a G.2.1 73 r_held), (r_Ahere, z_a G.2.2.2.2 36 r_here), (r_Athere, z_a G.2.2.2.2 36 r_there)]) 0 0 (fun v w => v = none ∧ w = [(r_o, z_o 6 [.ref r_Atext, z_i r_typed, .ref r_Atold, .ref r_Adraft, .ref r_Abegun, .ref r_As, .ref r_Apast, z_i r_known, .ref r_Aimages, z_i r_kept, .ref r_Arings, z_i r_rung, z_i r_at, .ref r_Astates, .ref r_Aheld, .ref r_Ahere, .ref r_Athere]), (r_Atext, z_a G.2.1 200 r_text), (r_Atold, z_a G.2.1 39 r_told), (r_Adraft, z_a G.2.1 39 r_draft), (r_Abegun, z_a G.2.1 73 r_begun), (r_As, z_a G.2.1 73 r_s), (r_Apast, z_a G.2.1 584 r_past), (r_Aimages, z_a G.2.1 146 r_images), (r_Arings, z_a G.2.1 6 r_rings), (r_Astates, z_a G.2.1 36 q_r_states), (r_Aheld, z_a G.2.1 73 r_held), (r_Ahere, z_a G.2.2.2.2 36 r_here), (r_Athere, z_a G.2.2.2.2 36 r_there)] ∧ z_r q_r_states ∧ True) := by
  unfold m_X6_laysStates at hm
  refine z_M.intro (by decide +kernel) (Nat.le_of_ble_eq_true rfl) (L := [(0, .ref r_o)]) rfl (fun X C E => ?_)
  refine z_iconst C dX6_laysStates_0 ?_
  refine z_istore_n C dX6_laysStates_1 (by decide) (L' := [(1, z_i 0), (0, .ref r_o)]) rfl ?_
  obtain ⟨o_r_states_1, hl, hm⟩ := z_b1s hm
  have JX1 : z_r o_r_states_1 → z_J X 0 0 ([(r_o, z_o 6 [.ref r_Atext, z_i r_typed, .ref r_Atold, .ref r_Adraft, .ref r_Abegun, .ref r_As, .ref r_Apast, z_i r_known, .ref r_Aimages, z_i r_kept, .ref r_Arings, z_i r_rung, z_i r_at, .ref r_Astates, .ref r_Aheld, .ref r_Ahere, .ref r_Athere]), (r_Atext, z_a G.2.1 200 r_text), (r_Atold, z_a G.2.1 39 r_told), (r_Adraft, z_a G.2.1 39 r_draft), (r_Abegun, z_a G.2.1 73 r_begun), (r_As, z_a G.2.1 73 r_s), (r_Apast, z_a G.2.1 584 r_past), (r_Aimages, z_a G.2.1 146 r_images), (r_Arings, z_a G.2.1 6 r_rings), (r_Astates, z_a G.2.1 36 o_r_states_1), (r_Aheld, z_a G.2.1 73 r_held), (r_Ahere, z_a G.2.2.2.2 36 r_here), (r_Athere, z_a G.2.2.2.2 36 r_there)]) [(0, .ref r_o)] 36 [] := by
    intro h_o_r_states_1
    clear hl
    refine z_iconst C dX6_laysStates_36 ?_
    refine z_istore_n C dX6_laysStates_37 (by decide) (L' := [(1, z_i 1), (0, .ref r_o)]) rfl ?_
    obtain ⟨o_r_states_2, hl, hm⟩ := z_b1s hm
    have JX2 : z_r o_r_states_2 → z_J X 0 0 ([(r_o, z_o 6 [.ref r_Atext, z_i r_typed, .ref r_Atold, .ref r_Adraft, .ref r_Abegun, .ref r_As, .ref r_Apast, z_i r_known, .ref r_Aimages, z_i r_kept, .ref r_Arings, z_i r_rung, z_i r_at, .ref r_Astates, .ref r_Aheld, .ref r_Ahere, .ref r_Athere]), (r_Atext, z_a G.2.1 200 r_text), (r_Atold, z_a G.2.1 39 r_told), (r_Adraft, z_a G.2.1 39 r_draft), (r_Abegun, z_a G.2.1 73 r_begun), (r_As, z_a G.2.1 73 r_s), (r_Apast, z_a G.2.1 584 r_past), (r_Aimages, z_a G.2.1 146 r_images), (r_Arings, z_a G.2.1 6 r_rings), (r_Astates, z_a G.2.1 36 o_r_states_2), (r_Aheld, z_a G.2.1 73 r_held), (r_Ahere, z_a G.2.2.2.2 36 r_here), (r_Athere, z_a G.2.2.2.2 36 r_there)]) [] 139 [] := by
      intro h_o_r_states_2
      clear hl
      cases hm
      exact z_vret C E dX6_laysStates_139 ⟨rfl, rfl, h_o_r_states_2, trivial⟩
    clear hm
    have L2 : ∀ (n2 : Nat) (v1_2 : Int) (r_states_2 : (Int → Int)), z_n v1_2 → z_r r_states_2 → m_X6_laysStates_l2 N r_told n2 v1_2 r_states_2 = some (o_r_states_2) → z_J X 0 0 ([(r_o, z_o 6 [.ref r_Atext, z_i r_typed, .ref r_Atold, .ref r_Adraft, .ref r_Abegun, .ref r_As, .ref r_Apast, z_i r_known, .ref r_Aimages, z_i r_kept, .ref r_Arings, z_i r_rung, z_i r_at, .ref r_Astates, .ref r_Aheld, .ref r_Ahere, .ref r_Athere]), (r_Atext, z_a G.2.1 200 r_text), (r_Atold, z_a G.2.1 39 r_told), (r_Adraft, z_a G.2.1 39 r_draft), (r_Abegun, z_a G.2.1 73 r_begun), (r_As, z_a G.2.1 73 r_s), (r_Apast, z_a G.2.1 584 r_past), (r_Aimages, z_a G.2.1 146 r_images), (r_Arings, z_a G.2.1 6 r_rings), (r_Astates, z_a G.2.1 36 r_states_2), (r_Aheld, z_a G.2.1 73 r_held), (r_Ahere, z_a G.2.2.2.2 36 r_here), (r_Athere, z_a G.2.2.2.2 36 r_there)]) [(0, .ref r_o), (1, z_i v1_2)] 38 [] := by
      clear hl
      intro n2
      induction n2 with
      | zero =>
        intro v1_2 r_states_2 h_v1_2 h_r_states_2 hm
        rw [m_X6_laysStates_l2] at hm
        cases hm
      | succ n2 ih2 =>
        intro v1_2 r_states_2 h_v1_2 h_r_states_2 hm
        rw [m_X6_laysStates_l2] at hm
        refine z_iload_n C dX6_laysStates_38 1 rfl ?_
        refine z_if_eq (tgt := 139) C h_v1_2 dX6_laysStates_39 (by decide) (fun c10 => ?_) (fun c10 => ?_)
        · have hm := z_pos c10 hm
          refine z_sub (L' := []) [] rfl ?_
          cases hm
          exact JX2 h_r_states_2
        · have hm := z_neg c10 hm
          refine z_iconst C dX6_laysStates_42 ?_
          refine z_istore_n C dX6_laysStates_43 (by decide) (L' := [(1, z_i 0), (0, .ref r_o)]) rfl ?_
          refine z_iconst C dX6_laysStates_44 ?_
          refine z_istore_n C dX6_laysStates_45 (by decide) (L' := [(2, z_i 0), (1, z_i 0), (0, .ref r_o)]) rfl ?_
          obtain ⟨o1_3, o_r_states_3, hl, hm⟩ := z_b2s hm
          have JX3 : z_n o1_3 → z_r o_r_states_3 → z_J X 0 0 ([(r_o, z_o 6 [.ref r_Atext, z_i r_typed, .ref r_Atold, .ref r_Adraft, .ref r_Abegun, .ref r_As, .ref r_Apast, z_i r_known, .ref r_Aimages, z_i r_kept, .ref r_Arings, z_i r_rung, z_i r_at, .ref r_Astates, .ref r_Aheld, .ref r_Ahere, .ref r_Athere]), (r_Atext, z_a G.2.1 200 r_text), (r_Atold, z_a G.2.1 39 r_told), (r_Adraft, z_a G.2.1 39 r_draft), (r_Abegun, z_a G.2.1 73 r_begun), (r_As, z_a G.2.1 73 r_s), (r_Apast, z_a G.2.1 584 r_past), (r_Aimages, z_a G.2.1 146 r_images), (r_Arings, z_a G.2.1 6 r_rings), (r_Astates, z_a G.2.1 36 o_r_states_3), (r_Aheld, z_a G.2.1 73 r_held), (r_Ahere, z_a G.2.2.2.2 36 r_here), (r_Athere, z_a G.2.2.2.2 36 r_there)]) [(0, .ref r_o), (1, z_i o1_3)] 136 [] := by
            intro h_o1_3 h_o_r_states_3
            clear hl
            refine z_goto (tgt := 38) C dX6_laysStates_136 (by decide) ?_
            exact ih2 o1_3 o_r_states_3 h_o1_3 h_o_r_states_3 hm
          clear hm
          have L3 : ∀ (n3 : Nat) (v1_3 : Int) (v2_3 : Int) (r_states_3 : (Int → Int)), z_n v1_3 → z_n v2_3 → z_r r_states_3 → m_X6_laysStates_l3 N r_told n3 v1_3 v2_3 r_states_3 = some (o1_3, o_r_states_3) → z_J X 0 0 ([(r_o, z_o 6 [.ref r_Atext, z_i r_typed, .ref r_Atold, .ref r_Adraft, .ref r_Abegun, .ref r_As, .ref r_Apast, z_i r_known, .ref r_Aimages, z_i r_kept, .ref r_Arings, z_i r_rung, z_i r_at, .ref r_Astates, .ref r_Aheld, .ref r_Ahere, .ref r_Athere]), (r_Atext, z_a G.2.1 200 r_text), (r_Atold, z_a G.2.1 39 r_told), (r_Adraft, z_a G.2.1 39 r_draft), (r_Abegun, z_a G.2.1 73 r_begun), (r_As, z_a G.2.1 73 r_s), (r_Apast, z_a G.2.1 584 r_past), (r_Aimages, z_a G.2.1 146 r_images), (r_Arings, z_a G.2.1 6 r_rings), (r_Astates, z_a G.2.1 36 r_states_3), (r_Aheld, z_a G.2.1 73 r_held), (r_Ahere, z_a G.2.2.2.2 36 r_here), (r_Athere, z_a G.2.2.2.2 36 r_there)]) [(0, .ref r_o), (1, z_i v1_3), (2, z_i v2_3)] 46 [] := by
            clear hl
            intro n3
            induction n3 with
            | zero =>
              intro v1_3 v2_3 r_states_3 h_v1_3 h_v2_3 h_r_states_3 hm
              rw [m_X6_laysStates_l3] at hm
              cases hm
            | succ n3 ih3 =>
              intro v1_3 v2_3 r_states_3 h_v1_3 h_v2_3 h_r_states_3 hm
              rw [m_X6_laysStates_l3] at hm
              refine z_iload_n C dX6_laysStates_46 2 rfl ?_
              refine z_aload_n C dX6_laysStates_47 0 rfl ?_
              obtain ⟨r11, k12, hm⟩ := z_b1s hm
              refine z_callVid C (k_X6_cells l G N r_o r_Atext r_Atold r_Adraft r_Abegun r_As r_Apast r_Aimages r_Arings r_Astates r_Aheld r_Ahere r_Athere r_text r_typed r_told r_draft r_begun r_s r_past r_known r_images r_kept r_rings r_rung r_at r_states_3 r_held r_here r_there h_r_text h_r_typed h_r_told h_r_draft h_r_begun h_r_s h_r_past h_r_known h_r_images h_r_kept h_r_rings h_r_rung h_r_at h_r_states_3 h_r_held h_r_here h_r_there r11 k12) zv_X6_cells zl_X6_53 dX6_laysStates_48 rfl 0 rfl rfl rfl [z_i v2_3] rfl (Nat.le_of_ble_eq_true rfl) ⟨Nat.le_of_ble_eq_true rfl, Nat.le_of_ble_eq_true rfl⟩ ⟨rfl, rfl⟩ ⟨Nat.zero_le _, Nat.zero_le _⟩ (fun hF => ?_)
              obtain ⟨h_r11, -⟩ := hF
              refine z_icmp_ge (tgt := 136) C h_v2_3 h_r11 dX6_laysStates_51 (by decide) (fun c13 => ?_) (fun c13 => ?_)
              · have hm := z_pos c13 hm
                refine z_sub (L' := [(0, .ref r_o), (1, z_i v1_3)]) [0, 1] rfl ?_
                cases hm
                exact JX3 h_v1_3 h_r_states_3
              · have hm := z_neg c13 hm
                refine z_iconst C dX6_laysStates_54 ?_
                refine z_istore_n C dX6_laysStates_55 (by decide) (L' := [(3, z_i 0), (0, .ref r_o), (1, z_i v1_3), (2, z_i v2_3)]) rfl ?_
                obtain ⟨o1_4, o_r_states_4, hl, hm⟩ := z_b2s hm
                have JX4 : z_n o1_4 → z_r o_r_states_4 → z_J X 0 0 ([(r_o, z_o 6 [.ref r_Atext, z_i r_typed, .ref r_Atold, .ref r_Adraft, .ref r_Abegun, .ref r_As, .ref r_Apast, z_i r_known, .ref r_Aimages, z_i r_kept, .ref r_Arings, z_i r_rung, z_i r_at, .ref r_Astates, .ref r_Aheld, .ref r_Ahere, .ref r_Athere]), (r_Atext, z_a G.2.1 200 r_text), (r_Atold, z_a G.2.1 39 r_told), (r_Adraft, z_a G.2.1 39 r_draft), (r_Abegun, z_a G.2.1 73 r_begun), (r_As, z_a G.2.1 73 r_s), (r_Apast, z_a G.2.1 584 r_past), (r_Aimages, z_a G.2.1 146 r_images), (r_Arings, z_a G.2.1 6 r_rings), (r_Astates, z_a G.2.1 36 o_r_states_4), (r_Aheld, z_a G.2.1 73 r_held), (r_Ahere, z_a G.2.2.2.2 36 r_here), (r_Athere, z_a G.2.2.2.2 36 r_there)]) [(0, .ref r_o), (1, z_i o1_4), (2, z_i v2_3)] 130 [] := by
                  intro h_o1_4 h_o_r_states_4
                  clear hl
                  obtain ⟨c31, hm⟩ := z_chk_some hm
                  refine z_iinc C dX6_laysStates_130 2 rfl (by decide) (L' := [(2, z_i (v2_3 + 1)), (0, .ref r_o), (1, z_i o1_4)]) rfl ?_
                  refine z_goto (tgt := 46) C dX6_laysStates_133 (by decide) ?_
                  refine z_sub (L' := [(0, .ref r_o), (1, z_i o1_4), (2, z_i (v2_3 + 1))]) [1, 2, 0] rfl ?_
                  exact ih3 o1_4 (v2_3 + 1) o_r_states_4 h_o1_4 c31 h_o_r_states_4 hm
                clear hm
                have L4 : ∀ (n4 : Nat) (v1_4 : Int) (v3_4 : Int) (r_states_4 : (Int → Int)), z_n v1_4 → z_n v3_4 → z_r r_states_4 → m_X6_laysStates_l4 N v2_3 r_told n4 v1_4 v3_4 r_states_4 = some (o1_4, o_r_states_4) → z_J X 0 0 ([(r_o, z_o 6 [.ref r_Atext, z_i r_typed, .ref r_Atold, .ref r_Adraft, .ref r_Abegun, .ref r_As, .ref r_Apast, z_i r_known, .ref r_Aimages, z_i r_kept, .ref r_Arings, z_i r_rung, z_i r_at, .ref r_Astates, .ref r_Aheld, .ref r_Ahere, .ref r_Athere]), (r_Atext, z_a G.2.1 200 r_text), (r_Atold, z_a G.2.1 39 r_told), (r_Adraft, z_a G.2.1 39 r_draft), (r_Abegun, z_a G.2.1 73 r_begun), (r_As, z_a G.2.1 73 r_s), (r_Apast, z_a G.2.1 584 r_past), (r_Aimages, z_a G.2.1 146 r_images), (r_Arings, z_a G.2.1 6 r_rings), (r_Astates, z_a G.2.1 36 r_states_4), (r_Aheld, z_a G.2.1 73 r_held), (r_Ahere, z_a G.2.2.2.2 36 r_here), (r_Athere, z_a G.2.2.2.2 36 r_there)]) [(0, .ref r_o), (1, z_i v1_4), (2, z_i v2_3), (3, z_i v3_4)] 56 [] := by
                  clear hl
                  intro n4
                  induction n4 with
                  | zero =>
                    intro v1_4 v3_4 r_states_4 h_v1_4 h_v3_4 h_r_states_4 hm
                    rw [m_X6_laysStates_l4] at hm
                    cases hm
                  | succ n4 ih4 =>
                    intro v1_4 v3_4 r_states_4 h_v1_4 h_v3_4 h_r_states_4 hm
                    rw [m_X6_laysStates_l4] at hm
                    refine z_iload_n C dX6_laysStates_56 3 rfl ?_
                    refine z_iconst C dX6_laysStates_57 ?_
                    refine z_icmp_ge (tgt := 130) C h_v3_4 (z_k 4 rfl) dX6_laysStates_58 (by decide) (fun c14 => ?_) (fun c14 => ?_)
                    · have hm := z_pos c14 hm
                      refine z_sub (L' := [(0, .ref r_o), (1, z_i v1_4), (2, z_i v2_3)]) [0, 1, 2] rfl ?_
                      cases hm
                      exact JX4 h_v1_4 h_r_states_4
                    · have hm := z_neg c14 hm
                      refine z_aload_n C dX6_laysStates_61 0 rfl ?_
                      refine z_get C zf_X6_34 dX6_laysStates_62 0 rfl rfl ?_
                      refine z_iload_n C dX6_laysStates_65 2 rfl ?_
                      obtain ⟨c15, hm⟩ := z_chk_some hm
                      refine z_iald C dX6_laysStates_66 9 rfl c15 h_v2_3 ?_
                      refine z_if_lt (tgt := 130) C (h_r_states_4 _) dX6_laysStates_67 (by decide) (fun c16 => ?_) (fun c16 => ?_)
                      · have hm := z_pos c16 hm
                        refine z_sub (L' := [(0, .ref r_o), (1, z_i v1_4), (2, z_i v2_3)]) [0, 1, 2] rfl ?_
                        cases hm
                        exact JX4 h_v1_4 h_r_states_4
                      · have hm := z_neg c16 hm
                        refine z_aload_n C dX6_laysStates_70 0 rfl ?_
                        refine z_iload_n C dX6_laysStates_71 2 rfl ?_
                        refine z_iload_n C dX6_laysStates_72 3 rfl ?_
                        obtain ⟨r17, k18, hm⟩ := z_b1s hm
                        refine z_callVid C (k_X6_beside l G N r_o r_Atext r_Atold r_Adraft r_Abegun r_As r_Apast r_Aimages r_Arings r_Astates r_Aheld r_Ahere r_Athere r_text r_typed r_told r_draft r_begun r_s r_past r_known r_images r_kept r_rings r_rung r_at r_states_4 r_held r_here r_there v2_3 v3_4 h_r_text h_r_typed h_r_told h_r_draft h_r_begun h_r_s h_r_past h_r_known h_r_images h_r_kept h_r_rings h_r_rung h_r_at h_r_states_4 h_r_held h_r_here h_r_there h_v2_3 h_v3_4 r17 k18) zv_X6_beside zl_X6_101 dX6_laysStates_73 rfl 0 rfl rfl rfl [] rfl (Nat.le_of_ble_eq_true rfl) ⟨Nat.le_of_ble_eq_true rfl, Nat.le_of_ble_eq_true rfl⟩ ⟨rfl, rfl⟩ ⟨Nat.zero_le _, Nat.zero_le _⟩ (fun hF => ?_)
                        obtain ⟨h_r17, -⟩ := hF
                        refine z_istore C dX6_laysStates_76 (by decide) (L' := [(4, z_i r17), (0, .ref r_o), (1, z_i v1_4), (2, z_i v2_3), (3, z_i v3_4)]) rfl ?_
                        refine z_iload C dX6_laysStates_78 0 rfl ?_
                        refine z_if_lt (tgt := 124) C h_r17 dX6_laysStates_80 (by decide) (fun c19 => ?_) (fun c19 => ?_)
                        · have hm := z_pos c19 hm
                          obtain ⟨c20, hm⟩ := z_chk_some hm
                          refine z_iinc C dX6_laysStates_124 4 rfl (by decide) (L' := [(3, z_i (v3_4 + 1)), (4, z_i r17), (0, .ref r_o), (1, z_i v1_4), (2, z_i v2_3)]) rfl ?_
                          refine z_goto (tgt := 56) C dX6_laysStates_127 (by decide) ?_
                          refine z_sub (L' := [(0, .ref r_o), (1, z_i v1_4), (2, z_i v2_3), (3, z_i (v3_4 + 1))]) [2, 3, 4, 0] rfl ?_
                          exact ih4 v1_4 (v3_4 + 1) r_states_4 h_v1_4 c20 h_r_states_4 hm
                        · have hm := z_neg c19 hm
                          refine z_aload_n C dX6_laysStates_83 1 rfl ?_
                          refine z_get C zf_X6_34 dX6_laysStates_84 0 rfl rfl ?_
                          refine z_iload C dX6_laysStates_87 0 rfl ?_
                          obtain ⟨c21, hm⟩ := z_chk_some hm
                          refine z_iald C dX6_laysStates_89 9 rfl c21 h_r17 ?_
                          refine z_if_lt (tgt := 124) C (h_r_states_4 _) dX6_laysStates_90 (by decide) (fun c22 => ?_) (fun c22 => ?_)
                          · have hm := z_pos c22 hm
                            obtain ⟨c23, hm⟩ := z_chk_some hm
                            refine z_iinc C dX6_laysStates_124 4 rfl (by decide) (L' := [(3, z_i (v3_4 + 1)), (4, z_i r17), (0, .ref r_o), (1, z_i v1_4), (2, z_i v2_3)]) rfl ?_
                            refine z_goto (tgt := 56) C dX6_laysStates_127 (by decide) ?_
                            refine z_sub (L' := [(0, .ref r_o), (1, z_i v1_4), (2, z_i v2_3), (3, z_i (v3_4 + 1))]) [2, 3, 4, 0] rfl ?_
                            exact ih4 v1_4 (v3_4 + 1) r_states_4 h_v1_4 c23 h_r_states_4 hm
                          · have hm := z_neg c22 hm
                            refine z_aload_n C dX6_laysStates_93 1 rfl ?_
                            refine z_get C zf_X6_34 dX6_laysStates_94 0 rfl rfl ?_
                            refine z_iload C dX6_laysStates_97 0 rfl ?_
                            obtain ⟨c24, hm⟩ := z_chk_some hm
                            refine z_iald C dX6_laysStates_99 9 rfl c24 h_r17 ?_
                            refine z_aload_n C dX6_laysStates_100 1 rfl ?_
                            refine z_get C zf_X6_34 dX6_laysStates_101 0 rfl rfl ?_
                            refine z_iload_n C dX6_laysStates_104 3 rfl ?_
                            obtain ⟨c25, hm⟩ := z_chk_some hm
                            refine z_iald C dX6_laysStates_105 9 rfl c25 h_v2_3 ?_
                            refine z_icmp_ge (tgt := 124) C (h_r_states_4 _) (h_r_states_4 _) dX6_laysStates_106 (by decide) (fun c26 => ?_) (fun c26 => ?_)
                            · have hm := z_pos c26 hm
                              obtain ⟨c27, hm⟩ := z_chk_some hm
                              refine z_iinc C dX6_laysStates_124 4 rfl (by decide) (L' := [(3, z_i (v3_4 + 1)), (4, z_i r17), (0, .ref r_o), (1, z_i v1_4), (2, z_i v2_3)]) rfl ?_
                              refine z_goto (tgt := 56) C dX6_laysStates_127 (by decide) ?_
                              refine z_sub (L' := [(0, .ref r_o), (1, z_i v1_4), (2, z_i v2_3), (3, z_i (v3_4 + 1))]) [2, 3, 4, 0] rfl ?_
                              exact ih4 v1_4 (v3_4 + 1) r_states_4 h_v1_4 c27 h_r_states_4 hm
                            · have hm := z_neg c26 hm
                              refine z_aload_n C dX6_laysStates_109 1 rfl ?_
                              refine z_get C zf_X6_34 dX6_laysStates_110 0 rfl rfl ?_
                              refine z_iload_n C dX6_laysStates_113 3 rfl ?_
                              refine z_aload_n C dX6_laysStates_114 1 rfl ?_
                              refine z_get C zf_X6_34 dX6_laysStates_115 0 rfl rfl ?_
                              refine z_iload C dX6_laysStates_118 0 rfl ?_
                              obtain ⟨c28, hm⟩ := z_chk_some hm
                              refine z_iald C dX6_laysStates_120 9 rfl c28 h_r17 ?_
                              obtain ⟨c29, hm⟩ := z_chk_some hm
                              refine z_iast C dX6_laysStates_121 9 rfl c29 h_v2_3 (ws' := [(r_o, z_o 6 [.ref r_Atext, z_i r_typed, .ref r_Atold, .ref r_Adraft, .ref r_Abegun, .ref r_As, .ref r_Apast, z_i r_known, .ref r_Aimages, z_i r_kept, .ref r_Arings, z_i r_rung, z_i r_at, .ref r_Astates, .ref r_Aheld, .ref r_Ahere, .ref r_Athere]), (r_Atext, z_a G.2.1 200 r_text), (r_Atold, z_a G.2.1 39 r_told), (r_Adraft, z_a G.2.1 39 r_draft), (r_Abegun, z_a G.2.1 73 r_begun), (r_As, z_a G.2.1 73 r_s), (r_Apast, z_a G.2.1 584 r_past), (r_Aimages, z_a G.2.1 146 r_images), (r_Arings, z_a G.2.1 6 r_rings), (r_Astates, z_a G.2.1 36 (z_up r_states_4 v2_3 (r_states_4 r17))), (r_Aheld, z_a G.2.1 73 r_held), (r_Ahere, z_a G.2.2.2.2 36 r_here), (r_Athere, z_a G.2.2.2.2 36 r_there)]) rfl ?_
                              refine z_iconst C dX6_laysStates_122 ?_
                              refine z_istore_n C dX6_laysStates_123 (by decide) (L' := [(1, z_i 1), (4, z_i r17), (0, .ref r_o), (2, z_i v2_3), (3, z_i v3_4)]) rfl ?_
                              obtain ⟨c30, hm⟩ := z_chk_some hm
                              refine z_iinc C dX6_laysStates_124 4 rfl (by decide) (L' := [(3, z_i (v3_4 + 1)), (1, z_i 1), (4, z_i r17), (0, .ref r_o), (2, z_i v2_3)]) rfl ?_
                              refine z_goto (tgt := 56) C dX6_laysStates_127 (by decide) ?_
                              refine z_sub (L' := [(0, .ref r_o), (1, z_i 1), (2, z_i v2_3), (3, z_i (v3_4 + 1))]) [3, 1, 4, 0] rfl ?_
                              exact ih4 1 (v3_4 + 1) (z_up r_states_4 v2_3 (r_states_4 r17)) (z_k 1 rfl) c30 (z_r_up h_r_states_4 (h_r_states_4 _)) hm
                refine z_sub (L' := [(0, .ref r_o), (1, z_i v1_3), (2, z_i v2_3), (3, z_i 0)]) [1, 2, 3, 0] rfl ?_
                exact L4 N v1_3 0 r_states_3 h_v1_3 (z_k 0 rfl) h_r_states_3 hl
          refine z_sub (L' := [(0, .ref r_o), (1, z_i 0), (2, z_i 0)]) [2, 1, 0] rfl ?_
          exact L3 N 0 0 r_states_2 (z_k 0 rfl) (z_k 0 rfl) h_r_states_2 hl
    refine z_sub (L' := [(0, .ref r_o), (1, z_i 1)]) [1, 0] rfl ?_
    exact L2 N 1 o_r_states_1 (z_k 1 rfl) h_o_r_states_1 hl
  clear hm
  have L1 : ∀ (n1 : Nat) (v1_1 : Int) (r_states_1 : (Int → Int)), z_n v1_1 → z_r r_states_1 → m_X6_laysStates_l1 N r_told r_s n1 v1_1 r_states_1 = some (o_r_states_1) → z_J X 0 0 ([(r_o, z_o 6 [.ref r_Atext, z_i r_typed, .ref r_Atold, .ref r_Adraft, .ref r_Abegun, .ref r_As, .ref r_Apast, z_i r_known, .ref r_Aimages, z_i r_kept, .ref r_Arings, z_i r_rung, z_i r_at, .ref r_Astates, .ref r_Aheld, .ref r_Ahere, .ref r_Athere]), (r_Atext, z_a G.2.1 200 r_text), (r_Atold, z_a G.2.1 39 r_told), (r_Adraft, z_a G.2.1 39 r_draft), (r_Abegun, z_a G.2.1 73 r_begun), (r_As, z_a G.2.1 73 r_s), (r_Apast, z_a G.2.1 584 r_past), (r_Aimages, z_a G.2.1 146 r_images), (r_Arings, z_a G.2.1 6 r_rings), (r_Astates, z_a G.2.1 36 r_states_1), (r_Aheld, z_a G.2.1 73 r_held), (r_Ahere, z_a G.2.2.2.2 36 r_here), (r_Athere, z_a G.2.2.2.2 36 r_there)]) [(0, .ref r_o), (1, z_i v1_1)] 2 [] := by
    clear hl
    intro n1
    induction n1 with
    | zero =>
      intro v1_1 r_states_1 h_v1_1 h_r_states_1 hm
      rw [m_X6_laysStates_l1] at hm
      cases hm
    | succ n1 ih1 =>
      intro v1_1 r_states_1 h_v1_1 h_r_states_1 hm
      rw [m_X6_laysStates_l1] at hm
      refine z_iload_n C dX6_laysStates_2 1 rfl ?_
      refine z_aload_n C dX6_laysStates_3 0 rfl ?_
      obtain ⟨r1, k2, hm⟩ := z_b1s hm
      refine z_callVid C (k_X6_cells l G N r_o r_Atext r_Atold r_Adraft r_Abegun r_As r_Apast r_Aimages r_Arings r_Astates r_Aheld r_Ahere r_Athere r_text r_typed r_told r_draft r_begun r_s r_past r_known r_images r_kept r_rings r_rung r_at r_states_1 r_held r_here r_there h_r_text h_r_typed h_r_told h_r_draft h_r_begun h_r_s h_r_past h_r_known h_r_images h_r_kept h_r_rings h_r_rung h_r_at h_r_states_1 h_r_held h_r_here h_r_there r1 k2) zv_X6_cells zl_X6_53 dX6_laysStates_4 rfl 0 rfl rfl rfl [z_i v1_1] rfl (Nat.le_of_ble_eq_true rfl) ⟨Nat.le_of_ble_eq_true rfl, Nat.le_of_ble_eq_true rfl⟩ ⟨rfl, rfl⟩ ⟨Nat.zero_le _, Nat.zero_le _⟩ (fun hF => ?_)
      obtain ⟨h_r1, -⟩ := hF
      refine z_icmp_ge (tgt := 36) C h_v1_1 h_r1 dX6_laysStates_7 (by decide) (fun c3 => ?_) (fun c3 => ?_)
      · have hm := z_pos c3 hm
        refine z_sub (L' := [(0, .ref r_o)]) [0] rfl ?_
        cases hm
        exact JX1 h_r_states_1
      · have hm := z_neg c3 hm
        refine z_aload_n C dX6_laysStates_10 0 rfl ?_
        refine z_get C zf_X6_34 dX6_laysStates_11 0 rfl rfl ?_
        refine z_iload_n C dX6_laysStates_14 1 rfl ?_
        refine z_aload_n C dX6_laysStates_15 0 rfl ?_
        refine z_get C zf_X6_22 dX6_laysStates_16 0 rfl rfl ?_
        refine z_iload_n C dX6_laysStates_19 1 rfl ?_
        obtain ⟨c4, hm⟩ := z_chk_some hm
        refine z_iald C dX6_laysStates_20 5 rfl c4 h_v1_1 ?_
        refine z_if_le (tgt := 28) C (h_r_s _) dX6_laysStates_21 (by decide) (fun c5 => ?_) (fun c5 => ?_)
        · have hm := z_pos c5 hm
          refine z_iconst C dX6_laysStates_28 ?_
          obtain ⟨c6, hm⟩ := z_chk_some hm
          refine z_iast C dX6_laysStates_29 9 rfl c6 h_v1_1 (ws' := [(r_o, z_o 6 [.ref r_Atext, z_i r_typed, .ref r_Atold, .ref r_Adraft, .ref r_Abegun, .ref r_As, .ref r_Apast, z_i r_known, .ref r_Aimages, z_i r_kept, .ref r_Arings, z_i r_rung, z_i r_at, .ref r_Astates, .ref r_Aheld, .ref r_Ahere, .ref r_Athere]), (r_Atext, z_a G.2.1 200 r_text), (r_Atold, z_a G.2.1 39 r_told), (r_Adraft, z_a G.2.1 39 r_draft), (r_Abegun, z_a G.2.1 73 r_begun), (r_As, z_a G.2.1 73 r_s), (r_Apast, z_a G.2.1 584 r_past), (r_Aimages, z_a G.2.1 146 r_images), (r_Arings, z_a G.2.1 6 r_rings), (r_Astates, z_a G.2.1 36 (z_up r_states_1 v1_1 (-1))), (r_Aheld, z_a G.2.1 73 r_held), (r_Ahere, z_a G.2.2.2.2 36 r_here), (r_Athere, z_a G.2.2.2.2 36 r_there)]) rfl ?_
          obtain ⟨c7, hm⟩ := z_chk_some hm
          refine z_iinc C dX6_laysStates_30 1 rfl (by decide) (L' := [(1, z_i (v1_1 + 1)), (0, .ref r_o)]) rfl ?_
          refine z_goto (tgt := 2) C dX6_laysStates_33 (by decide) ?_
          refine z_sub (L' := [(0, .ref r_o), (1, z_i (v1_1 + 1))]) [1, 0] rfl ?_
          exact ih1 (v1_1 + 1) (z_up r_states_1 v1_1 (-1)) c7 (z_r_up h_r_states_1 (z_k (-1) rfl)) hm
        · have hm := z_neg c5 hm
          refine z_iload_n C dX6_laysStates_24 1 rfl ?_
          refine z_goto (tgt := 29) C dX6_laysStates_25 (by decide) ?_
          obtain ⟨c8, hm⟩ := z_chk_some hm
          refine z_iast C dX6_laysStates_29 9 rfl c8 h_v1_1 (ws' := [(r_o, z_o 6 [.ref r_Atext, z_i r_typed, .ref r_Atold, .ref r_Adraft, .ref r_Abegun, .ref r_As, .ref r_Apast, z_i r_known, .ref r_Aimages, z_i r_kept, .ref r_Arings, z_i r_rung, z_i r_at, .ref r_Astates, .ref r_Aheld, .ref r_Ahere, .ref r_Athere]), (r_Atext, z_a G.2.1 200 r_text), (r_Atold, z_a G.2.1 39 r_told), (r_Adraft, z_a G.2.1 39 r_draft), (r_Abegun, z_a G.2.1 73 r_begun), (r_As, z_a G.2.1 73 r_s), (r_Apast, z_a G.2.1 584 r_past), (r_Aimages, z_a G.2.1 146 r_images), (r_Arings, z_a G.2.1 6 r_rings), (r_Astates, z_a G.2.1 36 (z_up r_states_1 v1_1 v1_1)), (r_Aheld, z_a G.2.1 73 r_held), (r_Ahere, z_a G.2.2.2.2 36 r_here), (r_Athere, z_a G.2.2.2.2 36 r_there)]) rfl ?_
          obtain ⟨c9, hm⟩ := z_chk_some hm
          refine z_iinc C dX6_laysStates_30 1 rfl (by decide) (L' := [(1, z_i (v1_1 + 1)), (0, .ref r_o)]) rfl ?_
          refine z_goto (tgt := 2) C dX6_laysStates_33 (by decide) ?_
          refine z_sub (L' := [(0, .ref r_o), (1, z_i (v1_1 + 1))]) [1, 0] rfl ?_
          exact ih1 (v1_1 + 1) (z_up r_states_1 v1_1 v1_1) c9 (z_r_up h_r_states_1 h_v1_1) hm
  refine z_sub (L' := [(0, .ref r_o), (1, z_i 0)]) [1, 0] rfl ?_
  exact L1 N 0 r_states (z_k 0 rfl) h_r_states hl
set_option maxRecDepth 100000 in
theorem k_X6_sizeOf (l : Launch) (G : z_G) (N : Nat) (r_o r_Atext r_Atold r_Adraft r_Abegun r_As r_Apast r_Aimages r_Arings r_Astates r_Aheld r_Ahere r_Athere : Nat) (r_text : (Int → Int)) (r_typed : Int) (r_told : (Int → Int)) (r_draft : (Int → Int)) (r_begun : (Int → Int)) (r_s : (Int → Int)) (r_past : (Int → Int)) (r_known : Int) (r_images : (Int → Int)) (r_kept : Int) (r_rings : (Int → Int)) (r_rung : Int) (r_at : Int) (r_states : (Int → Int)) (r_held : (Int → Int)) (r_here : (Int → Int)) (r_there : (Int → Int)) (x1 : Int) (h_r_text : z_r r_text) (h_r_typed : z_n r_typed) (h_r_told : z_r r_told) (h_r_draft : z_r r_draft) (h_r_begun : z_r r_begun) (h_r_s : z_r r_s) (h_r_past : z_r r_past) (h_r_known : z_n r_known) (h_r_images : z_r r_images) (h_r_kept : z_n r_kept) (h_r_rings : z_r r_rings) (h_r_rung : z_n r_rung) (h_r_at : z_n r_at) (h_r_states : z_r r_states) (h_r_held : z_r r_held) (h_r_here : z_r r_here) (h_r_there : z_r r_there) (h_x1 : z_n x1) (rr : Int) (hm : m_X6_sizeOf N r_told r_states x1 = some (rr)) : z_M l G yX6_sizeOf cX6_sizeOf 4 (some .int) (k2_rm 1 20) [.ref r_o, z_i x1] ([(r_o, z_o 6 [.ref r_Atext, z_i r_typed, .ref r_Atold, .ref r_Adraft, .ref r_Abegun, .ref r_As, .ref r_Apast, z_i r_known, .ref r_Aimages, z_i r_kept, .ref r_Arings, z_i r_rung, z_i r_at, .ref r_Astates, .ref r_Aheld, .ref r_Ahere, .ref r_Athere]), (r_Atext, z_a G.2.1 200 r_text), (r_Atold, z_a G.2.1 39 r_told), (r_Adraft, z_a G.2.1 39 r_draft), (r_Abegun, z_a G.2.1 73 r_begun), (r_As, z_a G.2.1 73 r_s), (r_Apast, z_a G.2.1 584 r_past), (r_Aimages, z_a G.2.1 146 r_images), (r_Arings, z_a G.2.1 6 r_rings), (r_Astates, z_a G.2.1 36 r_states), (r_Aheld, z_a G.2.1 73 r_held), (r_Ahere, z_a G.2.2.2.2 36 r_here), (r_Athere, z_a G.2.2.2.2 36 r_there)]) 0 0 (fun v w => v = some (z_i rr) ∧ w = [(r_o, z_o 6 [.ref r_Atext, z_i r_typed, .ref r_Atold, .ref r_Adraft, .ref r_Abegun, .ref r_As, .ref r_Apast, z_i r_known, .ref r_Aimages, z_i r_kept, .ref r_Arings, z_i r_rung, z_i r_at, .ref r_Astates, .ref r_Aheld, .ref r_Ahere, .ref r_Athere]), (r_Atext, z_a G.2.1 200 r_text), (r_Atold, z_a G.2.1 39 r_told), (r_Adraft, z_a G.2.1 39 r_draft), (r_Abegun, z_a G.2.1 73 r_begun), (r_As, z_a G.2.1 73 r_s), (r_Apast, z_a G.2.1 584 r_past), (r_Aimages, z_a G.2.1 146 r_images), (r_Arings, z_a G.2.1 6 r_rings), (r_Astates, z_a G.2.1 36 r_states), (r_Aheld, z_a G.2.1 73 r_held), (r_Ahere, z_a G.2.2.2.2 36 r_here), (r_Athere, z_a G.2.2.2.2 36 r_there)] ∧ z_n rr ∧ True) := by
  unfold m_X6_sizeOf at hm
  refine z_M.intro (by decide +kernel) (Nat.le_of_ble_eq_true rfl) (L := [(0, .ref r_o), (1, z_i x1)]) rfl (fun X C E => ?_)
  refine z_iconst C dX6_sizeOf_0 ?_
  refine z_istore_n C dX6_sizeOf_1 (by decide) (L' := [(2, z_i 0), (0, .ref r_o), (1, z_i x1)]) rfl ?_
  refine z_iconst C dX6_sizeOf_2 ?_
  refine z_istore_n C dX6_sizeOf_3 (by decide) (L' := [(3, z_i 0), (2, z_i 0), (0, .ref r_o), (1, z_i x1)]) rfl ?_
  obtain ⟨o2_1, hl, hm⟩ := z_b1s hm
  have JX1 : z_n o2_1 → z_J X 0 0 ([(r_o, z_o 6 [.ref r_Atext, z_i r_typed, .ref r_Atold, .ref r_Adraft, .ref r_Abegun, .ref r_As, .ref r_Apast, z_i r_known, .ref r_Aimages, z_i r_kept, .ref r_Arings, z_i r_rung, z_i r_at, .ref r_Astates, .ref r_Aheld, .ref r_Ahere, .ref r_Athere]), (r_Atext, z_a G.2.1 200 r_text), (r_Atold, z_a G.2.1 39 r_told), (r_Adraft, z_a G.2.1 39 r_draft), (r_Abegun, z_a G.2.1 73 r_begun), (r_As, z_a G.2.1 73 r_s), (r_Apast, z_a G.2.1 584 r_past), (r_Aimages, z_a G.2.1 146 r_images), (r_Arings, z_a G.2.1 6 r_rings), (r_Astates, z_a G.2.1 36 r_states), (r_Aheld, z_a G.2.1 73 r_held), (r_Ahere, z_a G.2.2.2.2 36 r_here), (r_Athere, z_a G.2.2.2.2 36 r_there)]) [(2, z_i o2_1)] 40 [] := by
    intro h_o2_1
    clear hl
    refine z_iload_n C dX6_sizeOf_40 0 rfl ?_
    cases hm
    exact z_iret C E dX6_sizeOf_41 ⟨rfl, rfl, h_o2_1, trivial⟩
  clear hm
  have L1 : ∀ (n1 : Nat) (v2_1 : Int) (v3_1 : Int), z_n v2_1 → z_n v3_1 → m_X6_sizeOf_l1 N r_told x1 r_states n1 v2_1 v3_1 = some (o2_1) → z_J X 0 0 ([(r_o, z_o 6 [.ref r_Atext, z_i r_typed, .ref r_Atold, .ref r_Adraft, .ref r_Abegun, .ref r_As, .ref r_Apast, z_i r_known, .ref r_Aimages, z_i r_kept, .ref r_Arings, z_i r_rung, z_i r_at, .ref r_Astates, .ref r_Aheld, .ref r_Ahere, .ref r_Athere]), (r_Atext, z_a G.2.1 200 r_text), (r_Atold, z_a G.2.1 39 r_told), (r_Adraft, z_a G.2.1 39 r_draft), (r_Abegun, z_a G.2.1 73 r_begun), (r_As, z_a G.2.1 73 r_s), (r_Apast, z_a G.2.1 584 r_past), (r_Aimages, z_a G.2.1 146 r_images), (r_Arings, z_a G.2.1 6 r_rings), (r_Astates, z_a G.2.1 36 r_states), (r_Aheld, z_a G.2.1 73 r_held), (r_Ahere, z_a G.2.2.2.2 36 r_here), (r_Athere, z_a G.2.2.2.2 36 r_there)]) [(0, .ref r_o), (1, z_i x1), (2, z_i v2_1), (3, z_i v3_1)] 4 [] := by
    clear hl
    intro n1
    induction n1 with
    | zero =>
      intro v2_1 v3_1 h_v2_1 h_v3_1 hm
      rw [m_X6_sizeOf_l1] at hm
      cases hm
    | succ n1 ih1 =>
      intro v2_1 v3_1 h_v2_1 h_v3_1 hm
      rw [m_X6_sizeOf_l1] at hm
      refine z_iload_n C dX6_sizeOf_4 3 rfl ?_
      refine z_aload_n C dX6_sizeOf_5 0 rfl ?_
      obtain ⟨r1, k2, hm⟩ := z_b1s hm
      refine z_callVid C (k_X6_cells l G N r_o r_Atext r_Atold r_Adraft r_Abegun r_As r_Apast r_Aimages r_Arings r_Astates r_Aheld r_Ahere r_Athere r_text r_typed r_told r_draft r_begun r_s r_past r_known r_images r_kept r_rings r_rung r_at r_states r_held r_here r_there h_r_text h_r_typed h_r_told h_r_draft h_r_begun h_r_s h_r_past h_r_known h_r_images h_r_kept h_r_rings h_r_rung h_r_at h_r_states h_r_held h_r_here h_r_there r1 k2) zv_X6_cells zl_X6_53 dX6_sizeOf_6 rfl 0 rfl rfl rfl [z_i v3_1] rfl (Nat.le_of_ble_eq_true rfl) ⟨Nat.le_of_ble_eq_true rfl, Nat.le_of_ble_eq_true rfl⟩ ⟨rfl, rfl⟩ ⟨Nat.zero_le _, Nat.zero_le _⟩ (fun hF => ?_)
      obtain ⟨h_r1, -⟩ := hF
      refine z_icmp_ge (tgt := 40) C h_v3_1 h_r1 dX6_sizeOf_9 (by decide) (fun c3 => ?_) (fun c3 => ?_)
      · have hm := z_pos c3 hm
        refine z_sub (L' := [(2, z_i v2_1)]) [2] rfl ?_
        cases hm
        exact JX1 h_v2_1
      · have hm := z_neg c3 hm
        refine z_iload_n C dX6_sizeOf_12 2 rfl ?_
        refine z_iload_n C dX6_sizeOf_13 1 rfl ?_
        refine z_if_lt (tgt := 31) C h_x1 dX6_sizeOf_14 (by decide) (fun c4 => ?_) (fun c4 => ?_)
        · have hm := z_pos c4 hm
          refine z_iconst C dX6_sizeOf_31 ?_
          obtain ⟨c5, hm⟩ := z_chk_some hm
          refine z_iadd C dX6_sizeOf_32 ?_
          refine z_istore_n C dX6_sizeOf_33 (by decide) (L' := [(2, z_i (v2_1 + 0)), (0, .ref r_o), (1, z_i x1), (3, z_i v3_1)]) rfl ?_
          obtain ⟨c6, hm⟩ := z_chk_some hm
          refine z_iinc C dX6_sizeOf_34 3 rfl (by decide) (L' := [(3, z_i (v3_1 + 1)), (2, z_i (v2_1 + 0)), (0, .ref r_o), (1, z_i x1)]) rfl ?_
          refine z_goto (tgt := 4) C dX6_sizeOf_37 (by decide) ?_
          refine z_sub (L' := [(0, .ref r_o), (1, z_i x1), (2, z_i (v2_1 + 0)), (3, z_i (v3_1 + 1))]) [2, 3, 1, 0] rfl ?_
          exact ih1 (v2_1 + 0) (v3_1 + 1) c5 c6 hm
        · have hm := z_neg c4 hm
          refine z_aload_n C dX6_sizeOf_17 0 rfl ?_
          refine z_get C zf_X6_34 dX6_sizeOf_18 0 rfl rfl ?_
          refine z_iload_n C dX6_sizeOf_21 3 rfl ?_
          obtain ⟨c7, hm⟩ := z_chk_some hm
          refine z_iald C dX6_sizeOf_22 9 rfl c7 h_v3_1 ?_
          refine z_iload_n C dX6_sizeOf_23 1 rfl ?_
          refine z_icmp_ne (tgt := 31) C (h_r_states _) h_x1 dX6_sizeOf_24 (by decide) (fun c8 => ?_) (fun c8 => ?_)
          · have hm := z_pos c8 hm
            refine z_iconst C dX6_sizeOf_31 ?_
            obtain ⟨c9, hm⟩ := z_chk_some hm
            refine z_iadd C dX6_sizeOf_32 ?_
            refine z_istore_n C dX6_sizeOf_33 (by decide) (L' := [(2, z_i (v2_1 + 0)), (0, .ref r_o), (1, z_i x1), (3, z_i v3_1)]) rfl ?_
            obtain ⟨c10, hm⟩ := z_chk_some hm
            refine z_iinc C dX6_sizeOf_34 3 rfl (by decide) (L' := [(3, z_i (v3_1 + 1)), (2, z_i (v2_1 + 0)), (0, .ref r_o), (1, z_i x1)]) rfl ?_
            refine z_goto (tgt := 4) C dX6_sizeOf_37 (by decide) ?_
            refine z_sub (L' := [(0, .ref r_o), (1, z_i x1), (2, z_i (v2_1 + 0)), (3, z_i (v3_1 + 1))]) [2, 3, 1, 0] rfl ?_
            exact ih1 (v2_1 + 0) (v3_1 + 1) c9 c10 hm
          · have hm := z_neg c8 hm
            refine z_iconst C dX6_sizeOf_27 ?_
            refine z_goto (tgt := 32) C dX6_sizeOf_28 (by decide) ?_
            obtain ⟨c11, hm⟩ := z_chk_some hm
            refine z_iadd C dX6_sizeOf_32 ?_
            refine z_istore_n C dX6_sizeOf_33 (by decide) (L' := [(2, z_i (v2_1 + 1)), (0, .ref r_o), (1, z_i x1), (3, z_i v3_1)]) rfl ?_
            obtain ⟨c12, hm⟩ := z_chk_some hm
            refine z_iinc C dX6_sizeOf_34 3 rfl (by decide) (L' := [(3, z_i (v3_1 + 1)), (2, z_i (v2_1 + 1)), (0, .ref r_o), (1, z_i x1)]) rfl ?_
            refine z_goto (tgt := 4) C dX6_sizeOf_37 (by decide) ?_
            refine z_sub (L' := [(0, .ref r_o), (1, z_i x1), (2, z_i (v2_1 + 1)), (3, z_i (v3_1 + 1))]) [2, 3, 1, 0] rfl ?_
            exact ih1 (v2_1 + 1) (v3_1 + 1) c11 c12 hm
  refine z_sub (L' := [(0, .ref r_o), (1, z_i x1), (2, z_i 0), (3, z_i 0)]) [2, 3, 1, 0] rfl ?_
  exact L1 N 0 0 (z_k 0 rfl) (z_k 0 rfl) hl
