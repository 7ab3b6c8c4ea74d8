set_option maxRecDepth 100000 in
theorem k_X6_write (l : Launch) (G : z_G) (N : Nat) (r_o r_Atext r_Atold r_Adraft r_Abegun r_As r_Apast r_Aimages r_Arings r_Astates r_Aheld r_Ahere r_Athere : Nat) (r_text : (Int → Int)) (r_typed : Int) (r_told : (Int → Int)) (r_draft : (Int → Int)) (r_begun : (Int → Int)) (r_s : (Int → Int)) (r_past : (Int → Int)) (r_known : Int) (r_images : (Int → Int)) (r_kept : Int) (r_rings : (Int → Int)) (r_rung : Int) (r_at : Int) (r_states : (Int → Int)) (r_held : (Int → Int)) (r_here : (Int → Int)) (r_there : (Int → Int)) (x1 : Int) (h_r_text : z_r r_text) (h_r_typed : z_n r_typed) (h_r_told : z_r r_told) (h_r_draft : z_r r_draft) (h_r_begun : z_r r_begun) (h_r_s : z_r r_s) (h_r_past : z_r r_past) (h_r_known : z_n r_known) (h_r_images : z_r r_images) (h_r_kept : z_n r_kept) (h_r_rings : z_r r_rings) (h_r_rung : z_n r_rung) (h_r_at : z_n r_at) (h_r_states : z_r r_states) (h_r_held : z_r r_held) (h_r_here : z_r r_here) (h_r_there : z_r r_there) (h_x1 : z_n x1) (rr : Int) (q_r_text : (Int → Int)) (q_r_typed : Int) (hm : m_X6_write N r_text r_typed x1 = some (rr, q_r_text, q_r_typed)) : z_M l G yX6_write cX6_write 2 (some .int) (k2_rm 1 22) [.ref r_o, z_i x1] ([(r_o, z_o 6 [.ref r_Atext, z_i r_typed, .ref r_Atold, .ref r_Adraft, .ref r_Abegun, .ref r_As, .ref r_Apast, z_i r_known, .ref r_Aimages, z_i r_kept, .ref r_Arings, z_i r_rung, z_i r_at, .ref r_Astates, .ref r_Aheld, .ref r_Ahere, .ref r_Athere]), (r_Atext, z_a G.2.1 200 r_text), (r_Atold, z_a G.2.1 39 r_told), (r_Adraft, z_a G.2.1 39 r_draft), (r_Abegun, z_a G.2.1 73 r_begun), (r_As, z_a G.2.1 73 r_s), (r_Apast, z_a G.2.1 584 r_past), (r_Aimages, z_a G.2.1 146 r_images), (r_Arings, z_a G.2.1 6 r_rings), (r_Astates, z_a G.2.1 36 r_states), (r_Aheld, z_a G.2.1 73 r_held), (r_Ahere, z_a G.2.2.2.2 36 r_here), (r_Athere, z_a G.2.2.2.2 36 r_there)]) 0 0 (fun v w => v = some (z_i rr) ∧ w = [(r_o, z_o 6 [.ref r_Atext, z_i q_r_typed, .ref r_Atold, .ref r_Adraft, .ref r_Abegun, .ref r_As, .ref r_Apast, z_i r_known, .ref r_Aimages, z_i r_kept, .ref r_Arings, z_i r_rung, z_i r_at, .ref r_Astates, .ref r_Aheld, .ref r_Ahere, .ref r_Athere]), (r_Atext, z_a G.2.1 200 q_r_text), (r_Atold, z_a G.2.1 39 r_told), (r_Adraft, z_a G.2.1 39 r_draft), (r_Abegun, z_a G.2.1 73 r_begun), (r_As, z_a G.2.1 73 r_s), (r_Apast, z_a G.2.1 584 r_past), (r_Aimages, z_a G.2.1 146 r_images), (r_Arings, z_a G.2.1 6 r_rings), (r_Astates, z_a G.2.1 36 r_states), (r_Aheld, z_a G.2.1 73 r_held), (r_Ahere, z_a G.2.2.2.2 36 r_here), (r_Athere, z_a G.2.2.2.2 36 r_there)] ∧ z_n rr ∧ z_r q_r_text ∧ z_n q_r_typed ∧ True) := by
  unfold m_X6_write at hm
  refine z_M.intro (by decide +kernel) (Nat.le_of_ble_eq_true rfl) (L := [(0, .ref r_o), (1, z_i x1)]) rfl (fun X C E => ?_)
  refine z_iload_n C dX6_write_0 1 rfl ?_
  refine z_bipush C dX6_write_1 (by decide) ?_
  refine z_bipush C dX6_write_3 (by decide) ?_
  obtain ⟨r1, k2, hm⟩ := z_b1s hm
  refine z_callSi C (k_X6_in l G N x1 32 126 h_x1 (z_k 32 rfl) (z_k 126 rfl) r1 k2) zs_X6_in zl_X6_57 dX6_write_5 [] rfl rfl rfl (ws' := [(r_o, z_o 6 [.ref r_Atext, z_i r_typed, .ref r_Atold, .ref r_Adraft, .ref r_Abegun, .ref r_As, .ref r_Apast, z_i r_known, .ref r_Aimages, z_i r_kept, .ref r_Arings, z_i r_rung, z_i r_at, .ref r_Astates, .ref r_Aheld, .ref r_Ahere, .ref r_Athere]), (r_Atext, z_a G.2.1 200 r_text), (r_Atold, z_a G.2.1 39 r_told), (r_Adraft, z_a G.2.1 39 r_draft), (r_Abegun, z_a G.2.1 73 r_begun), (r_As, z_a G.2.1 73 r_s), (r_Apast, z_a G.2.1 584 r_past), (r_Aimages, z_a G.2.1 146 r_images), (r_Arings, z_a G.2.1 6 r_rings), (r_Astates, z_a G.2.1 36 r_states), (r_Aheld, z_a G.2.1 73 r_held), (r_Ahere, z_a G.2.2.2.2 36 r_here), (r_Athere, z_a G.2.2.2.2 36 r_there)]) rfl rfl [] rfl (Nat.le_of_ble_eq_true rfl) ⟨Nat.le_of_ble_eq_true rfl, Nat.le_of_ble_eq_true rfl⟩ ⟨rfl, rfl⟩ ⟨Nat.zero_le _, Nat.zero_le _⟩ (fun hF => ?_)
  obtain ⟨hb_r1, -⟩ := hF
  refine z_if_ne (tgt := 13) C (z_n01 hb_r1) dX6_write_8 (by decide) (fun c3 => ?_) (fun c3 => ?_)
  · have hm := z_pos c3 hm
    refine z_aload_n C dX6_write_13 0 rfl ?_
    refine z_get C zf_X6_61 dX6_write_14 0 rfl rfl ?_
    refine z_sipush C dX6_write_17 (by decide) ?_
    refine z_icmp_ne (tgt := 26) C h_r_typed (z_k 200 rfl) dX6_write_20 (by decide) (fun c4 => ?_) (fun c4 => ?_)
    · have hm := z_pos c4 hm
      refine z_aload_n C dX6_write_26 0 rfl ?_
      refine z_get C zf_X6_7 dX6_write_27 0 rfl rfl ?_
      refine z_aload_n C dX6_write_30 0 rfl ?_
      refine z_get C zf_X6_61 dX6_write_31 0 rfl rfl ?_
      refine z_iload_n C dX6_write_34 1 rfl ?_
      obtain ⟨c5, hm⟩ := z_chk_some hm
      refine z_iast C dX6_write_35 1 rfl c5 h_r_typed (ws' := [(r_o, z_o 6 [.ref r_Atext, z_i r_typed, .ref r_Atold, .ref r_Adraft, .ref r_Abegun, .ref r_As, .ref r_Apast, z_i r_known, .ref r_Aimages, z_i r_kept, .ref r_Arings, z_i r_rung, z_i r_at, .ref r_Astates, .ref r_Aheld, .ref r_Ahere, .ref r_Athere]), (r_Atext, z_a G.2.1 200 (z_up r_text r_typed x1)), (r_Atold, z_a G.2.1 39 r_told), (r_Adraft, z_a G.2.1 39 r_draft), (r_Abegun, z_a G.2.1 73 r_begun), (r_As, z_a G.2.1 73 r_s), (r_Apast, z_a G.2.1 584 r_past), (r_Aimages, z_a G.2.1 146 r_images), (r_Arings, z_a G.2.1 6 r_rings), (r_Astates, z_a G.2.1 36 r_states), (r_Aheld, z_a G.2.1 73 r_held), (r_Ahere, z_a G.2.2.2.2 36 r_here), (r_Athere, z_a G.2.2.2.2 36 r_there)]) rfl ?_
      refine z_aload_n C dX6_write_36 0 rfl ?_
      refine z_dup C rfl dX6_write_37 ?_
      refine z_get C zf_X6_61 dX6_write_38 0 rfl rfl ?_
      refine z_iconst C dX6_write_41 ?_
      obtain ⟨c6, hm⟩ := z_chk_some hm
      refine z_iadd C dX6_write_42 ?_
      refine z_puti C zf_X6_61 dX6_write_43 0 rfl rfl (ws' := [(r_o, z_o 6 [.ref r_Atext, z_i (r_typed + 1), .ref r_Atold, .ref r_Adraft, .ref r_Abegun, .ref r_As, .ref r_Apast, z_i r_known, .ref r_Aimages, z_i r_kept, .ref r_Arings, z_i r_rung, z_i r_at, .ref r_Astates, .ref r_Aheld, .ref r_Ahere, .ref r_Athere]), (r_Atext, z_a G.2.1 200 (z_up r_text r_typed x1)), (r_Atold, z_a G.2.1 39 r_told), (r_Adraft, z_a G.2.1 39 r_draft), (r_Abegun, z_a G.2.1 73 r_begun), (r_As, z_a G.2.1 73 r_s), (r_Apast, z_a G.2.1 584 r_past), (r_Aimages, z_a G.2.1 146 r_images), (r_Arings, z_a G.2.1 6 r_rings), (r_Astates, z_a G.2.1 36 r_states), (r_Aheld, z_a G.2.1 73 r_held), (r_Ahere, z_a G.2.2.2.2 36 r_here), (r_Athere, z_a G.2.2.2.2 36 r_there)]) rfl ?_
      refine z_aload_n C dX6_write_46 0 rfl ?_
      refine z_get C zf_X6_61 dX6_write_47 0 rfl rfl ?_
      cases hm
      exact z_iret C E dX6_write_50 ⟨rfl, rfl, c6, (z_r_up h_r_text h_x1), c6, trivial⟩
    · have hm := z_neg c4 hm
      refine z_bipush C dX6_write_23 (by decide) ?_
      cases hm
      exact z_iret C E dX6_write_25 ⟨rfl, rfl, (z_k (-3) rfl), h_r_text, h_r_typed, trivial⟩
  · have hm := z_neg c3 hm
    refine z_iconst C dX6_write_11 ?_
    cases hm
    exact z_iret C E dX6_write_12 ⟨rfl, rfl, (z_k (-1) rfl), h_r_text, h_r_typed, trivial⟩
set_option maxRecDepth 100000 in
theorem k_X6_wipe (l : Launch) (G : z_G) (N : Nat) (r_o r_Atext r_Atold r_Adraft r_Abegun r_As r_Apast r_Aimages r_Arings r_Astates r_Aheld r_Ahere r_Athere : Nat) (r_text : (Int → Int)) (r_typed : Int) (r_told : (Int → Int)) (r_draft : (Int → Int)) (r_begun : (Int → Int)) (r_s : (Int → Int)) (r_past : (Int → Int)) (r_known : Int) (r_images : (Int → Int)) (r_kept : Int) (r_rings : (Int → Int)) (r_rung : Int) (r_at : Int) (r_states : (Int → Int)) (r_held : (Int → Int)) (r_here : (Int → Int)) (r_there : (Int → Int)) (h_r_text : z_r r_text) (h_r_typed : z_n r_typed) (h_r_told : z_r r_told) (h_r_draft : z_r r_draft) (h_r_begun : z_r r_begun) (h_r_s : z_r r_s) (h_r_past : z_r r_past) (h_r_known : z_n r_known) (h_r_images : z_r r_images) (h_r_kept : z_n r_kept) (h_r_rings : z_r r_rings) (h_r_rung : z_n r_rung) (h_r_at : z_n r_at) (h_r_states : z_r r_states) (h_r_held : z_r r_held) (h_r_here : z_r r_here) (h_r_there : z_r r_there) (rr : Int) (q_r_typed : Int) (hm : m_X6_wipe N r_typed = some (rr, q_r_typed)) : z_M l G yX6_wipe cX6_wipe 2 (some .int) (k2_rm 0 0) [.ref r_o] ([(r_o, z_o 6 [.ref r_Atext, z_i r_typed, .ref r_Atold, .ref r_Adraft, .ref r_Abegun, .ref r_As, .ref r_Apast, z_i r_known, .ref r_Aimages, z_i r_kept, .ref r_Arings, z_i r_rung, z_i r_at, .ref r_Astates, .ref r_Aheld, .ref r_Ahere, .ref r_Athere]), (r_Atext, z_a G.2.1 200 r_text), (r_Atold, z_a G.2.1 39 r_told), (r_Adraft, z_a G.2.1 39 r_draft), (r_Abegun, z_a G.2.1 73 r_begun), (r_As, z_a G.2.1 73 r_s), (r_Apast, z_a G.2.1 584 r_past), (r_Aimages, z_a G.2.1 146 r_images), (r_Arings, z_a G.2.1 6 r_rings), (r_Astates, z_a G.2.1 36 r_states), (r_Aheld, z_a G.2.1 73 r_held), (r_Ahere, z_a G.2.2.2.2 36 r_here), (r_Athere, z_a G.2.2.2.2 36 r_there)]) 0 0 (fun v w => v = some (z_i rr) ∧ w = [(r_o, z_o 6 [.ref r_Atext, z_i q_r_typed, .ref r_Atold, .ref r_Adraft, .ref r_Abegun, .ref r_As, .ref r_Apast, z_i r_known, .ref r_Aimages, z_i r_kept, .ref r_Arings, z_i r_rung, z_i r_at, .ref r_Astates, .ref r_Aheld, .ref r_Ahere, .ref r_Athere]), (r_Atext, z_a G.2.1 200 r_text), (r_Atold, z_a G.2.1 39 r_told), (r_Adraft, z_a G.2.1 39 r_draft), (r_Abegun, z_a G.2.1 73 r_begun), (r_As, z_a G.2.1 73 r_s), (r_Apast, z_a G.2.1 584 r_past), (r_Aimages, z_a G.2.1 146 r_images), (r_Arings, z_a G.2.1 6 r_rings), (r_Astates, z_a G.2.1 36 r_states), (r_Aheld, z_a G.2.1 73 r_held), (r_Ahere, z_a G.2.2.2.2 36 r_here), (r_Athere, z_a G.2.2.2.2 36 r_there)] ∧ z_n rr ∧ z_n q_r_typed ∧ True) := by
  unfold m_X6_wipe at hm
  refine z_M.intro (by decide +kernel) (Nat.le_of_ble_eq_true rfl) (L := [(0, .ref r_o)]) rfl (fun X C E => ?_)
  refine z_aload_n C dX6_wipe_0 0 rfl ?_
  refine z_get C zf_X6_61 dX6_wipe_1 0 rfl rfl ?_
  refine z_istore_n C dX6_wipe_4 (by decide) (L' := [(1, z_i r_typed), (0, .ref r_o)]) rfl ?_
  refine z_aload_n C dX6_wipe_5 1 rfl ?_
  refine z_iconst C dX6_wipe_6 ?_
  refine z_puti C zf_X6_61 dX6_wipe_7 0 rfl rfl (ws' := [(r_o, z_o 6 [.ref r_Atext, z_i 0, .ref r_Atold, .ref r_Adraft, .ref r_Abegun, .ref r_As, .ref r_Apast, z_i r_known, .ref r_Aimages, z_i r_kept, .ref r_Arings, z_i r_rung, z_i r_at, .ref r_Astates, .ref r_Aheld, .ref r_Ahere, .ref r_Athere]), (r_Atext, z_a G.2.1 200 r_text), (r_Atold, z_a G.2.1 39 r_told), (r_Adraft, z_a G.2.1 39 r_draft), (r_Abegun, z_a G.2.1 73 r_begun), (r_As, z_a G.2.1 73 r_s), (r_Apast, z_a G.2.1 584 r_past), (r_Aimages, z_a G.2.1 146 r_images), (r_Arings, z_a G.2.1 6 r_rings), (r_Astates, z_a G.2.1 36 r_states), (r_Aheld, z_a G.2.1 73 r_held), (r_Ahere, z_a G.2.2.2.2 36 r_here), (r_Athere, z_a G.2.2.2.2 36 r_there)]) rfl ?_
  refine z_iload_n C dX6_wipe_10 0 rfl ?_
  cases hm
  exact z_iret C E dX6_wipe_11 ⟨rfl, rfl, h_r_typed, (z_k 0 rfl), trivial⟩
set_option maxRecDepth 100000 in
theorem k_X6_letterAt (l : Launch) (G : z_G) (N : Nat) (r_o r_Atext r_Atold r_Adraft r_Abegun r_As r_Apast r_Aimages r_Arings r_Astates r_Aheld r_Ahere r_Athere : Nat) (r_text : (Int → Int)) (r_typed : Int) (r_told : (Int → Int)) (r_draft : (Int → Int)) (r_begun : (Int → Int)) (r_s : (Int → Int)) (r_past : (Int → Int)) (r_known : Int) (r_images : (Int → Int)) (r_kept : Int) (r_rings : (Int → Int)) (r_rung : Int) (r_at : Int) (r_states : (Int → Int)) (r_held : (Int → Int)) (r_here : (Int → Int)) (r_there : (Int → Int)) (x1 : Int) (h_r_text : z_r r_text) (h_r_typed : z_n r_typed) (h_r_told : z_r r_told) (h_r_draft : z_r r_draft) (h_r_begun : z_r r_begun) (h_r_s : z_r r_s) (h_r_past : z_r r_past) (h_r_known : z_n r_known) (h_r_images : z_r r_images) (h_r_kept : z_n r_kept) (h_r_rings : z_r r_rings) (h_r_rung : z_n r_rung) (h_r_at : z_n r_at) (h_r_states : z_r r_states) (h_r_held : z_r r_held) (h_r_here : z_r r_here) (h_r_there : z_r r_there) (h_x1 : z_n x1) (rr : Int) (hm : m_X6_letterAt N r_text r_typed x1 = some (rr)) : z_M l G yX6_letterAt cX6_letterAt 2 (some .int) (k2_rm 0 0) [.ref r_o, z_i x1] ([(r_o, z_o 6 [.ref r_Atext, z_i r_typed, .ref r_Atold, .ref r_Adraft, .ref r_Abegun, .ref r_As, .ref r_Apast, z_i r_known, .ref r_Aimages, z_i r_kept, .ref r_Arings, z_i r_rung, z_i r_at, .ref r_Astates, .ref r_Aheld, .ref r_Ahere, .ref r_Athere]), (r_Atext, z_a G.2.1 200 r_text), (r_Atold, z_a G.2.1 39 r_told), (r_Adraft, z_a G.2.1 39 r_draft), (r_Abegun, z_a G.2.1 73 r_begun), (r_As, z_a G.2.1 73 r_s), (r_Apast, z_a G.2.1 584 r_past), (r_Aimages, z_a G.2.1 146 r_images), (r_Arings, z_a G.2.1 6 r_rings), (r_Astates, z_a G.2.1 36 r_states), (r_Aheld, z_a G.2.1 73 r_held), (r_Ahere, z_a G.2.2.2.2 36 r_here), (r_Athere, z_a G.2.2.2.2 36 r_there)]) 0 0 (fun v w => v = some (z_i rr) ∧ w = [(r_o, z_o 6 [.ref r_Atext, z_i r_typed, .ref r_Atold, .ref r_Adraft, .ref r_Abegun, .ref r_As, .ref r_Apast, z_i r_known, .ref r_Aimages, z_i r_kept, .ref r_Arings, z_i r_rung, z_i r_at, .ref r_Astates, .ref r_Aheld, .ref r_Ahere, .ref r_Athere]), (r_Atext, z_a G.2.1 200 r_text), (r_Atold, z_a G.2.1 39 r_told), (r_Adraft, z_a G.2.1 39 r_draft), (r_Abegun, z_a G.2.1 73 r_begun), (r_As, z_a G.2.1 73 r_s), (r_Apast, z_a G.2.1 584 r_past), (r_Aimages, z_a G.2.1 146 r_images), (r_Arings, z_a G.2.1 6 r_rings), (r_Astates, z_a G.2.1 36 r_states), (r_Aheld, z_a G.2.1 73 r_held), (r_Ahere, z_a G.2.2.2.2 36 r_here), (r_Athere, z_a G.2.2.2.2 36 r_there)] ∧ z_n rr ∧ True) := by
  unfold m_X6_letterAt at hm
  refine z_M.intro (by decide +kernel) (Nat.le_of_ble_eq_true rfl) (L := [(0, .ref r_o), (1, z_i x1)]) rfl (fun X C E => ?_)
  refine z_iload_n C dX6_letterAt_0 1 rfl ?_
  refine z_aload_n C dX6_letterAt_1 0 rfl ?_
  refine z_get C zf_X6_61 dX6_letterAt_2 0 rfl rfl ?_
  refine z_icmp_ge (tgt := 17) C h_x1 h_r_typed dX6_letterAt_5 (by decide) (fun c1 => ?_) (fun c1 => ?_)
  · have hm := z_pos c1 hm
    refine z_iconst C dX6_letterAt_17 ?_
    cases hm
    exact z_iret C E dX6_letterAt_18 ⟨rfl, rfl, (z_k (-1) rfl), trivial⟩
  · have hm := z_neg c1 hm
    refine z_aload_n C dX6_letterAt_8 0 rfl ?_
    refine z_get C zf_X6_7 dX6_letterAt_9 0 rfl rfl ?_
    refine z_iload_n C dX6_letterAt_12 1 rfl ?_
    obtain ⟨c2, hm⟩ := z_chk_some hm
    refine z_iald C dX6_letterAt_13 1 rfl c2 h_x1 ?_
    refine z_goto (tgt := 18) C dX6_letterAt_14 (by decide) ?_
    cases hm
    exact z_iret C E dX6_letterAt_18 ⟨rfl, rfl, (h_r_text _), trivial⟩
set_option maxRecDepth 100000 in
theorem k_X6_isFigure (l : Launch) (G : z_G) (N : Nat) (x0 : Int) (h_x0 : z_n x0) (rr : Int) (hm : m_X6_isFigure N x0 = some (rr)) : z_M l G yX6_isFigure cX6_isFigure 1 (some .boolean) (k2_rm 1 22) [z_i x0] ([]) 0 0 (fun v w => v = some (z_i rr) ∧ w = [] ∧ (rr = 0 ∨ rr = 1) ∧ True) := by
  unfold m_X6_isFigure at hm
  refine z_M.intro (by decide +kernel) (Nat.le_of_ble_eq_true rfl) (L := [(0, z_i x0)]) rfl (fun X C E => ?_)
  refine z_iload_n C dX6_isFigure_0 0 rfl ?_
  refine z_bipush C dX6_isFigure_1 (by decide) ?_
  refine z_bipush C dX6_isFigure_3 (by decide) ?_
  obtain ⟨r1, k2, hm⟩ := z_b1s hm
  refine z_callSi C (k_X6_in l G N x0 48 57 h_x0 (z_k 48 rfl) (z_k 57 rfl) r1 k2) zs_X6_in zl_X6_57 dX6_isFigure_5 [] rfl rfl rfl (ws' := []) rfl rfl [] rfl (Nat.le_of_ble_eq_true rfl) ⟨Nat.le_of_ble_eq_true rfl, Nat.le_of_ble_eq_true rfl⟩ ⟨rfl, rfl⟩ ⟨Nat.zero_le _, Nat.zero_le _⟩ (fun hF => ?_)
  obtain ⟨hb_r1, -⟩ := hF
  cases hm
  exact z_zret C E hb_r1 dX6_isFigure_8 ⟨rfl, rfl, hb_r1, trivial⟩
set_option maxRecDepth 100000 in
theorem k_X6_number (l : Launch) (G : z_G) (N : Nat) (r_o r_Atext r_Atold r_Adraft r_Abegun r_As r_Apast r_Aimages r_Arings r_Astates r_Aheld r_Ahere r_Athere : Nat) (r_text : (Int → Int)) (r_typed : Int) (r_told : (Int → Int)) (r_draft : (Int → Int)) (r_begun : (Int → Int)) (r_s : (Int → Int)) (r_past : (Int → Int)) (r_known : Int) (r_images : (Int → Int)) (r_kept : Int) (r_rings : (Int → Int)) (r_rung : Int) (r_at : Int) (r_states : (Int → Int)) (r_held : (Int → Int)) (r_here : (Int → Int)) (r_there : (Int → Int)) (x1 : Int) (x2 : Int) (x3 : Int) (h_r_text : z_r r_text) (h_r_typed : z_n r_typed) (h_r_told : z_r r_told) (h_r_draft : z_r r_draft) (h_r_begun : z_r r_begun) (h_r_s : z_r r_s) (h_r_past : z_r r_past) (h_r_known : z_n r_known) (h_r_images : z_r r_images) (h_r_kept : z_n r_kept) (h_r_rings : z_r r_rings) (h_r_rung : z_n r_rung) (h_r_at : z_n r_at) (h_r_states : z_r r_states) (h_r_held : z_r r_held) (h_r_here : z_r r_here) (h_r_there : z_r r_there) (h_x1 : z_n x1) (h_x2 : z_n x2) (h_x3 : z_n x3) (rr : Int) (q_r_at : Int) (hm : m_X6_number N r_text r_typed r_at x1 x2 x3 = some (rr, q_r_at)) : z_M l G yX6_number cX6_number 6 (some .int) (k2_rm 2 42) [.ref r_o, z_i x1, z_i x2, z_i x3] ([(r_o, z_o 6 [.ref r_Atext, z_i r_typed, .ref r_Atold, .ref r_Adraft, .ref r_Abegun, .ref r_As, .ref r_Apast, z_i r_known, .ref r_Aimages, z_i r_kept, .ref r_Arings, z_i r_rung, z_i r_at, .ref r_Astates, .ref r_Aheld, .ref r_Ahere, .ref r_Athere]), (r_Atext, z_a G.2.1 200 r_text), (r_Atold, z_a G.2.1 39 r_told), (r_Adraft, z_a G.2.1 39 r_draft), (r_Abegun, z_a G.2.1 73 r_begun), (r_As, z_a G.2.1 73 r_s), (r_Apast, z_a G.2.1 584 r_past), (r_Aimages, z_a G.2.1 146 r_images), (r_Arings, z_a G.2.1 6 r_rings), (r_Astates, z_a G.2.1 36 r_states), (r_Aheld, z_a G.2.1 73 r_held), (r_Ahere, z_a G.2.2.2.2 36 r_here), (r_Athere, z_a G.2.2.2.2 36 r_there)]) 0 0 (fun v w => v = some (z_i rr) ∧ w = [(r_o, z_o 6 [.ref r_Atext, z_i r_typed, .ref r_Atold, .ref r_Adraft, .ref r_Abegun, .ref r_As, .ref r_Apast, z_i r_known, .ref r_Aimages, z_i r_kept, .ref r_Arings, z_i r_rung, z_i q_r_at, .ref r_Astates, .ref r_Aheld, .ref r_Ahere, .ref r_Athere]), (r_Atext, z_a G.2.1 200 r_text), (r_Atold, z_a G.2.1 39 r_told), (r_Adraft, z_a G.2.1 39 r_draft), (r_Abegun, z_a G.2.1 73 r_begun), (r_As, z_a G.2.1 73 r_s), (r_Apast, z_a G.2.1 584 r_past), (r_Aimages, z_a G.2.1 146 r_images), (r_Arings, z_a G.2.1 6 r_rings), (r_Astates, z_a G.2.1 36 r_states), (r_Aheld, z_a G.2.1 73 r_held), (r_Ahere, z_a G.2.2.2.2 36 r_here), (r_Athere, z_a G.2.2.2.2 36 r_there)] ∧ z_n rr ∧ z_n q_r_at ∧ True) := by
  unfold m_X6_number at hm
  refine z_M.intro (by decide +kernel) (Nat.le_of_ble_eq_true rfl) (L := [(0, .ref r_o), (1, z_i x1), (2, z_i x2), (3, z_i x3)]) rfl (fun X C E => ?_)
  refine z_aload_n C dX6_number_0 0 rfl ?_
  refine z_aload_n C dX6_number_1 0 rfl ?_
  refine z_get C zf_X6_65 dX6_number_2 0 rfl rfl ?_
  obtain ⟨r1, k2, hm⟩ := z_b1s hm
  refine z_callVid C (k_X6_letterAt l G N r_o r_Atext r_Atold r_Adraft r_Abegun r_As r_Apast r_Aimages r_Arings r_Astates r_Aheld r_Ahere r_Athere r_text r_typed r_told r_draft r_begun r_s r_past r_known r_images r_kept r_rings r_rung r_at r_states r_held r_here r_there r_at h_r_text h_r_typed h_r_told h_r_draft h_r_begun h_r_s h_r_past h_r_known h_r_images h_r_kept h_r_rings h_r_rung h_r_at h_r_states h_r_held h_r_here h_r_there h_r_at r1 k2) zv_X6_letterAt zl_X6_68 dX6_number_5 rfl 0 rfl rfl rfl [] rfl (Nat.le_of_ble_eq_true rfl) ⟨Nat.le_of_ble_eq_true rfl, Nat.le_of_ble_eq_true rfl⟩ ⟨rfl, rfl⟩ ⟨Nat.zero_le _, Nat.zero_le _⟩ (fun hF => ?_)
  obtain ⟨h_r1, -⟩ := hF
  obtain ⟨r3, k4, hm⟩ := z_b1s hm
  refine z_callSi C (k_X6_isFigure l G N r1 h_r1 r3 k4) zs_X6_isFigure zl_X6_72 dX6_number_8 [] rfl rfl rfl (ws' := [(r_o, z_o 6 [.ref r_Atext, z_i r_typed, .ref r_Atold, .ref r_Adraft, .ref r_Abegun, .ref r_As, .ref r_Apast, z_i r_known, .ref r_Aimages, z_i r_kept, .ref r_Arings, z_i r_rung, z_i r_at, .ref r_Astates, .ref r_Aheld, .ref r_Ahere, .ref r_Athere]), (r_Atext, z_a G.2.1 200 r_text), (r_Atold, z_a G.2.1 39 r_told), (r_Adraft, z_a G.2.1 39 r_draft), (r_Abegun, z_a G.2.1 73 r_begun), (r_As, z_a G.2.1 73 r_s), (r_Apast, z_a G.2.1 584 r_past), (r_Aimages, z_a G.2.1 146 r_images), (r_Arings, z_a G.2.1 6 r_rings), (r_Astates, z_a G.2.1 36 r_states), (r_Aheld, z_a G.2.1 73 r_held), (r_Ahere, z_a G.2.2.2.2 36 r_here), (r_Athere, z_a G.2.2.2.2 36 r_there)]) rfl rfl [] rfl (Nat.le_of_ble_eq_true rfl) ⟨Nat.le_of_ble_eq_true rfl, Nat.le_of_ble_eq_true rfl⟩ ⟨rfl, rfl⟩ ⟨Nat.zero_le _, Nat.zero_le _⟩ (fun hF => ?_)
  obtain ⟨hb_r3, -⟩ := hF
  refine z_if_ne (tgt := 16) C (z_n01 hb_r3) dX6_number_11 (by decide) (fun c5 => ?_) (fun c5 => ?_)
  · have hm := z_pos c5 hm
    refine z_aload_n C dX6_number_16 0 rfl ?_
    refine z_aload_n C dX6_number_17 0 rfl ?_
    refine z_get C zf_X6_65 dX6_number_18 0 rfl rfl ?_
    obtain ⟨r6, k7, hm⟩ := z_b1s hm
    refine z_callVid C (k_X6_letterAt l G N r_o r_Atext r_Atold r_Adraft r_Abegun r_As r_Apast r_Aimages r_Arings r_Astates r_Aheld r_Ahere r_Athere r_text r_typed r_told r_draft r_begun r_s r_past r_known r_images r_kept r_rings r_rung r_at r_states r_held r_here r_there r_at h_r_text h_r_typed h_r_told h_r_draft h_r_begun h_r_s h_r_past h_r_known h_r_images h_r_kept h_r_rings h_r_rung h_r_at h_r_states h_r_held h_r_here h_r_there h_r_at r6 k7) zv_X6_letterAt zl_X6_68 dX6_number_21 rfl 0 rfl rfl rfl [] rfl (Nat.le_of_ble_eq_true rfl) ⟨Nat.le_of_ble_eq_true rfl, Nat.le_of_ble_eq_true rfl⟩ ⟨rfl, rfl⟩ ⟨Nat.zero_le _, Nat.zero_le _⟩ (fun hF => ?_)
    obtain ⟨h_r6, -⟩ := hF
    refine z_bipush C dX6_number_24 (by decide) ?_
    obtain ⟨c8, hm⟩ := z_chk_some hm
    refine z_isub C dX6_number_26 ?_
    refine z_istore C dX6_number_27 (by decide) (L' := [(4, z_i (r6 - 48)), (0, .ref r_o), (1, z_i x1), (2, z_i x2), (3, z_i x3)]) rfl ?_
    refine z_aload_n C dX6_number_29 1 rfl ?_
    refine z_dup C rfl dX6_number_30 ?_
    refine z_get C zf_X6_65 dX6_number_31 0 rfl rfl ?_
    refine z_iconst C dX6_number_34 ?_
    obtain ⟨c9, hm⟩ := z_chk_some hm
    refine z_iadd C dX6_number_35 ?_
    refine z_puti C zf_X6_65 dX6_number_36 0 rfl rfl (ws' := [(r_o, z_o 6 [.ref r_Atext, z_i r_typed, .ref r_Atold, .ref r_Adraft, .ref r_Abegun, .ref r_As, .ref r_Apast, z_i r_known, .ref r_Aimages, z_i r_kept, .ref r_Arings, z_i r_rung, z_i (r_at + 1), .ref r_Astates, .ref r_Aheld, .ref r_Ahere, .ref r_Athere]), (r_Atext, z_a G.2.1 200 r_text), (r_Atold, z_a G.2.1 39 r_told), (r_Adraft, z_a G.2.1 39 r_draft), (r_Abegun, z_a G.2.1 73 r_begun), (r_As, z_a G.2.1 73 r_s), (r_Apast, z_a G.2.1 584 r_past), (r_Aimages, z_a G.2.1 146 r_images), (r_Arings, z_a G.2.1 6 r_rings), (r_Astates, z_a G.2.1 36 r_states), (r_Aheld, z_a G.2.1 73 r_held), (r_Ahere, z_a G.2.2.2.2 36 r_here), (r_Athere, z_a G.2.2.2.2 36 r_there)]) rfl ?_
    refine z_aload_n C dX6_number_39 1 rfl ?_
    refine z_aload_n C dX6_number_40 1 rfl ?_
    refine z_get C zf_X6_65 dX6_number_41 0 rfl rfl ?_
    obtain ⟨r10, k11, hm⟩ := z_b1s hm
    refine z_callVid C (k_X6_letterAt l G N r_o r_Atext r_Atold r_Adraft r_Abegun r_As r_Apast r_Aimages r_Arings r_Astates r_Aheld r_Ahere r_Athere r_text r_typed r_told r_draft r_begun r_s r_past r_known r_images r_kept r_rings r_rung (r_at + 1) r_states r_held r_here r_there (r_at + 1) h_r_text h_r_typed h_r_told h_r_draft h_r_begun h_r_s h_r_past h_r_known h_r_images h_r_kept h_r_rings h_r_rung c9 h_r_states h_r_held h_r_here h_r_there c9 r10 k11) zv_X6_letterAt zl_X6_68 dX6_number_44 rfl 0 rfl rfl rfl [] rfl (Nat.le_of_ble_eq_true rfl) ⟨Nat.le_of_ble_eq_true rfl, Nat.le_of_ble_eq_true rfl⟩ ⟨rfl, rfl⟩ ⟨Nat.zero_le _, Nat.zero_le _⟩ (fun hF => ?_)
    obtain ⟨h_r10, -⟩ := hF
    obtain ⟨r12, k13, hm⟩ := z_b1s hm
    refine z_callSi C (k_X6_isFigure l G N r10 h_r10 r12 k13) zs_X6_isFigure zl_X6_72 dX6_number_47 [] rfl rfl rfl (ws' := [(r_o, z_o 6 [.ref r_Atext, z_i r_typed, .ref r_Atold, .ref r_Adraft, .ref r_Abegun, .ref r_As, .ref r_Apast, z_i r_known, .ref r_Aimages, z_i r_kept, .ref r_Arings, z_i r_rung, z_i (r_at + 1), .ref r_Astates, .ref r_Aheld, .ref r_Ahere, .ref r_Athere]), (r_Atext, z_a G.2.1 200 r_text), (r_Atold, z_a G.2.1 39 r_told), (r_Adraft, z_a G.2.1 39 r_draft), (r_Abegun, z_a G.2.1 73 r_begun), (r_As, z_a G.2.1 73 r_s), (r_Apast, z_a G.2.1 584 r_past), (r_Aimages, z_a G.2.1 146 r_images), (r_Arings, z_a G.2.1 6 r_rings), (r_Astates, z_a G.2.1 36 r_states), (r_Aheld, z_a G.2.1 73 r_held), (r_Ahere, z_a G.2.2.2.2 36 r_here), (r_Athere, z_a G.2.2.2.2 36 r_there)]) rfl rfl [] rfl (Nat.le_of_ble_eq_true rfl) ⟨Nat.le_of_ble_eq_true rfl, Nat.le_of_ble_eq_true rfl⟩ ⟨rfl, rfl⟩ ⟨Nat.zero_le _, Nat.zero_le _⟩ (fun hF => ?_)
    obtain ⟨hb_r12, -⟩ := hF
    obtain ⟨v4_21, r_at_22, hj, hm⟩ := z_b2s hm
    have J23 : z_n v4_21 → z_n r_at_22 → z_J X 0 0 ([(r_o, z_o 6 [.ref r_Atext, z_i r_typed, .ref r_Atold, .ref r_Adraft, .ref r_Abegun, .ref r_As, .ref r_Apast, z_i r_known, .ref r_Aimages, z_i r_kept, .ref r_Arings, z_i r_rung, z_i r_at_22, .ref r_Astates, .ref r_Aheld, .ref r_Ahere, .ref r_Athere]), (r_Atext, z_a G.2.1 200 r_text), (r_Atold, z_a G.2.1 39 r_told), (r_Adraft, z_a G.2.1 39 r_draft), (r_Abegun, z_a G.2.1 73 r_begun), (r_As, z_a G.2.1 73 r_s), (r_Apast, z_a G.2.1 584 r_past), (r_Aimages, z_a G.2.1 146 r_images), (r_Arings, z_a G.2.1 6 r_rings), (r_Astates, z_a G.2.1 36 r_states), (r_Aheld, z_a G.2.1 73 r_held), (r_Ahere, z_a G.2.2.2.2 36 r_here), (r_Athere, z_a G.2.2.2.2 36 r_there)]) [(0, .ref r_o), (1, z_i x1), (2, z_i x2), (3, z_i x3), (4, z_i v4_21)] 82 [] := by
      intro h_v4_21 h_r_at_22
      clear hj
      refine z_aload_n C dX6_number_82 0 rfl ?_
      refine z_aload_n C dX6_number_83 0 rfl ?_
      refine z_get C zf_X6_65 dX6_number_84 0 rfl rfl ?_
      obtain ⟨r24, k25, hm⟩ := z_b1s hm
      refine z_callVid C (k_X6_letterAt l G N r_o r_Atext r_Atold r_Adraft r_Abegun r_As r_Apast r_Aimages r_Arings r_Astates r_Aheld r_Ahere r_Athere r_text r_typed r_told r_draft r_begun r_s r_past r_known r_images r_kept r_rings r_rung r_at_22 r_states r_held r_here r_there r_at_22 h_r_text h_r_typed h_r_told h_r_draft h_r_begun h_r_s h_r_past h_r_known h_r_images h_r_kept h_r_rings h_r_rung h_r_at_22 h_r_states h_r_held h_r_here h_r_there h_r_at_22 r24 k25) zv_X6_letterAt zl_X6_68 dX6_number_87 rfl 0 rfl rfl rfl [] rfl (Nat.le_of_ble_eq_true rfl) ⟨Nat.le_of_ble_eq_true rfl, Nat.le_of_ble_eq_true rfl⟩ ⟨rfl, rfl⟩ ⟨Nat.zero_le _, Nat.zero_le _⟩ (fun hF => ?_)
      obtain ⟨h_r24, -⟩ := hF
      refine z_iload_n C dX6_number_90 3 rfl ?_
      obtain ⟨s30, hj, hm⟩ := z_b1s hm
      have J31 : z_n s30 → (s30 = 0 ∨ s30 = 1) → z_J X 0 0 ([(r_o, z_o 6 [.ref r_Atext, z_i r_typed, .ref r_Atold, .ref r_Adraft, .ref r_Abegun, .ref r_As, .ref r_Apast, z_i r_known, .ref r_Aimages, z_i r_kept, .ref r_Arings, z_i r_rung, z_i r_at_22, .ref r_Astates, .ref r_Aheld, .ref r_Ahere, .ref r_Athere]), (r_Atext, z_a G.2.1 200 r_text), (r_Atold, z_a G.2.1 39 r_told), (r_Adraft, z_a G.2.1 39 r_draft), (r_Abegun, z_a G.2.1 73 r_begun), (r_As, z_a G.2.1 73 r_s), (r_Apast, z_a G.2.1 584 r_past), (r_Aimages, z_a G.2.1 146 r_images), (r_Arings, z_a G.2.1 6 r_rings), (r_Astates, z_a G.2.1 36 r_states), (r_Aheld, z_a G.2.1 73 r_held), (r_Ahere, z_a G.2.2.2.2 36 r_here), (r_Athere, z_a G.2.2.2.2 36 r_there)]) [(0, .ref r_o), (4, z_i v4_21)] 109 [z_i s30] := by
        intro h_s30 hb_s30
        clear hj
        refine z_istore C dX6_number_109 (by decide) (L' := [(5, z_i s30), (0, .ref r_o), (4, z_i v4_21)]) rfl ?_
        refine z_aload_n C dX6_number_111 1 rfl ?_
        refine z_dup C rfl dX6_number_112 ?_
        refine z_get C zf_X6_65 dX6_number_113 0 rfl rfl ?_
        refine z_iconst C dX6_number_116 ?_
        obtain ⟨c32, hm⟩ := z_chk_some hm
        refine z_iadd C dX6_number_117 ?_
        refine z_puti C zf_X6_65 dX6_number_118 0 rfl rfl (ws' := [(r_o, z_o 6 [.ref r_Atext, z_i r_typed, .ref r_Atold, .ref r_Adraft, .ref r_Abegun, .ref r_As, .ref r_Apast, z_i r_known, .ref r_Aimages, z_i r_kept, .ref r_Arings, z_i r_rung, z_i (r_at_22 + 1), .ref r_Astates, .ref r_Aheld, .ref r_Ahere, .ref r_Athere]), (r_Atext, z_a G.2.1 200 r_text), (r_Atold, z_a G.2.1 39 r_told), (r_Adraft, z_a G.2.1 39 r_draft), (r_Abegun, z_a G.2.1 73 r_begun), (r_As, z_a G.2.1 73 r_s), (r_Apast, z_a G.2.1 584 r_past), (r_Aimages, z_a G.2.1 146 r_images), (r_Arings, z_a G.2.1 6 r_rings), (r_Astates, z_a G.2.1 36 r_states), (r_Aheld, z_a G.2.1 73 r_held), (r_Ahere, z_a G.2.2.2.2 36 r_here), (r_Athere, z_a G.2.2.2.2 36 r_there)]) rfl ?_
        refine z_iload C dX6_number_121 0 rfl ?_
        refine z_if_eq (tgt := 131) C h_s30 dX6_number_123 (by decide) (fun c33 => ?_) (fun c33 => ?_)
        · have hm := z_pos c33 hm
          refine z_iconst C dX6_number_131 ?_
          cases hm
          exact z_iret C E dX6_number_132 ⟨rfl, rfl, (z_k (-1) rfl), c32, trivial⟩
        · have hm := z_neg c33 hm
          refine z_iload C dX6_number_126 2 rfl ?_
          refine z_goto (tgt := 132) C dX6_number_128 (by decide) ?_
          cases hm
          exact z_iret C E dX6_number_132 ⟨rfl, rfl, h_v4_21, c32, trivial⟩
      replace hm := hj
      clear hj
      refine z_icmp_ne (tgt := 108) C h_r24 h_x3 dX6_number_91 (by decide) (fun c26 => ?_) (fun c26 => ?_)
      · have hm := z_pos c26 hm
        refine z_iconst C dX6_number_108 ?_
        refine z_sub (L' := [(0, .ref r_o), (4, z_i v4_21)]) [0, 4] rfl ?_
        cases hm
        exact J31 (z_k 0 rfl) (Or.inl rfl)
      · have hm := z_neg c26 hm
        refine z_iload C dX6_number_94 4 rfl ?_
        refine z_iload_n C dX6_number_96 1 rfl ?_
        refine z_iload_n C dX6_number_97 2 rfl ?_
        obtain ⟨r27, k28, hm⟩ := z_b1s hm
        refine z_callSi C (k_X6_in l G N v4_21 x1 x2 h_v4_21 h_x1 h_x2 r27 k28) zs_X6_in zl_X6_57 dX6_number_98 [] rfl rfl rfl (ws' := [(r_o, z_o 6 [.ref r_Atext, z_i r_typed, .ref r_Atold, .ref r_Adraft, .ref r_Abegun, .ref r_As, .ref r_Apast, z_i r_known, .ref r_Aimages, z_i r_kept, .ref r_Arings, z_i r_rung, z_i r_at_22, .ref r_Astates, .ref r_Aheld, .ref r_Ahere, .ref r_Athere]), (r_Atext, z_a G.2.1 200 r_text), (r_Atold, z_a G.2.1 39 r_told), (r_Adraft, z_a G.2.1 39 r_draft), (r_Abegun, z_a G.2.1 73 r_begun), (r_As, z_a G.2.1 73 r_s), (r_Apast, z_a G.2.1 584 r_past), (r_Aimages, z_a G.2.1 146 r_images), (r_Arings, z_a G.2.1 6 r_rings), (r_Astates, z_a G.2.1 36 r_states), (r_Aheld, z_a G.2.1 73 r_held), (r_Ahere, z_a G.2.2.2.2 36 r_here), (r_Athere, z_a G.2.2.2.2 36 r_there)]) rfl rfl [] rfl (Nat.le_of_ble_eq_true rfl) ⟨Nat.le_of_ble_eq_true rfl, Nat.le_of_ble_eq_true rfl⟩ ⟨rfl, rfl⟩ ⟨Nat.zero_le _, Nat.zero_le _⟩ (fun hF => ?_)
        obtain ⟨hb_r27, -⟩ := hF
        refine z_if_eq (tgt := 108) C (z_n01 hb_r27) dX6_number_101 (by decide) (fun c29 => ?_) (fun c29 => ?_)
        · have hm := z_pos c29 hm
          refine z_iconst C dX6_number_108 ?_
          refine z_sub (L' := [(0, .ref r_o), (4, z_i v4_21)]) [0, 4] rfl ?_
          cases hm
          exact J31 (z_k 0 rfl) (Or.inl rfl)
        · have hm := z_neg c29 hm
          refine z_iconst C dX6_number_104 ?_
          refine z_goto (tgt := 109) C dX6_number_105 (by decide) ?_
          refine z_sub (L' := [(0, .ref r_o), (4, z_i v4_21)]) [0, 4] rfl ?_
          cases hm
          exact J31 (z_k 1 rfl) (Or.inr rfl)
    replace hm := hj
    clear hj
    refine z_if_eq (tgt := 82) C (z_n01 hb_r12) dX6_number_50 (by decide) (fun c14 => ?_) (fun c14 => ?_)
    · have hm := z_pos c14 hm
      refine z_sub (L' := [(0, .ref r_o), (1, z_i x1), (2, z_i x2), (3, z_i x3), (4, z_i (r6 - 48))]) [1, 2, 3, 4, 0] rfl ?_
      cases hm
      exact J23 c8 c9
    · have hm := z_neg c14 hm
      refine z_bipush C dX6_number_53 (by decide) ?_
      refine z_iload C dX6_number_55 0 rfl ?_
      obtain ⟨c15, hm⟩ := z_chk_some hm
      refine z_imul C dX6_number_57 ?_
      refine z_aload_n C dX6_number_58 1 rfl ?_
      refine z_aload_n C dX6_number_59 1 rfl ?_
      refine z_get C zf_X6_65 dX6_number_60 0 rfl rfl ?_
      obtain ⟨r16, k17, hm⟩ := z_b1s hm
      refine z_callVid C (k_X6_letterAt l G N r_o r_Atext r_Atold r_Adraft r_Abegun r_As r_Apast r_Aimages r_Arings r_Astates r_Aheld r_Ahere r_Athere r_text r_typed r_told r_draft r_begun r_s r_past r_known r_images r_kept r_rings r_rung (r_at + 1) r_states r_held r_here r_there (r_at + 1) h_r_text h_r_typed h_r_told h_r_draft h_r_begun h_r_s h_r_past h_r_known h_r_images h_r_kept h_r_rings h_r_rung c9 h_r_states h_r_held h_r_here h_r_there c9 r16 k17) zv_X6_letterAt zl_X6_68 dX6_number_63 rfl 0 rfl rfl rfl [z_i (10 * (r6 - 48))] rfl (Nat.le_of_ble_eq_true rfl) ⟨Nat.le_of_ble_eq_true rfl, Nat.le_of_ble_eq_true rfl⟩ ⟨rfl, rfl⟩ ⟨Nat.zero_le _, Nat.zero_le _⟩ (fun hF => ?_)
      obtain ⟨h_r16, -⟩ := hF
      obtain ⟨c18, hm⟩ := z_chk_some hm
      refine z_iadd C dX6_number_66 ?_
      refine z_bipush C dX6_number_67 (by decide) ?_
      obtain ⟨c19, hm⟩ := z_chk_some hm
      refine z_isub C dX6_number_69 ?_
      refine z_istore C dX6_number_70 (by decide) (L' := [(4, z_i (((10 * (r6 - 48)) + r16) - 48)), (0, .ref r_o), (1, z_i x1), (2, z_i x2), (3, z_i x3)]) rfl ?_
      refine z_aload_n C dX6_number_72 1 rfl ?_
      refine z_dup C rfl dX6_number_73 ?_
      refine z_get C zf_X6_65 dX6_number_74 0 rfl rfl ?_
      refine z_iconst C dX6_number_77 ?_
      obtain ⟨c20, hm⟩ := z_chk_some hm
      refine z_iadd C dX6_number_78 ?_
      refine z_puti C zf_X6_65 dX6_number_79 0 rfl rfl (ws' := [(r_o, z_o 6 [.ref r_Atext, z_i r_typed, .ref r_Atold, .ref r_Adraft, .ref r_Abegun, .ref r_As, .ref r_Apast, z_i r_known, .ref r_Aimages, z_i r_kept, .ref r_Arings, z_i r_rung, z_i ((r_at + 1) + 1), .ref r_Astates, .ref r_Aheld, .ref r_Ahere, .ref r_Athere]), (r_Atext, z_a G.2.1 200 r_text), (r_Atold, z_a G.2.1 39 r_told), (r_Adraft, z_a G.2.1 39 r_draft), (r_Abegun, z_a G.2.1 73 r_begun), (r_As, z_a G.2.1 73 r_s), (r_Apast, z_a G.2.1 584 r_past), (r_Aimages, z_a G.2.1 146 r_images), (r_Arings, z_a G.2.1 6 r_rings), (r_Astates, z_a G.2.1 36 r_states), (r_Aheld, z_a G.2.1 73 r_held), (r_Ahere, z_a G.2.2.2.2 36 r_here), (r_Athere, z_a G.2.2.2.2 36 r_there)]) rfl ?_
      refine z_sub (L' := [(0, .ref r_o), (1, z_i x1), (2, z_i x2), (3, z_i x3), (4, z_i (((10 * (r6 - 48)) + r16) - 48))]) [1, 2, 3, 4, 0] rfl ?_
      cases hm
      exact J23 c19 c20
  · have hm := z_neg c5 hm
    refine z_iconst C dX6_number_14 ?_
    cases hm
    exact z_iret C E dX6_number_15 ⟨rfl, rfl, (z_k (-1) rfl), h_r_at, trivial⟩
