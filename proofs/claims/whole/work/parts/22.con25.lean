set_option maxRecDepth 100000 in
theorem k_X6_areApart (l : Launch) (G : z_G) (N : Nat) (r_o r_Atext r_Atold r_Adraft r_Abegun r_As r_Apast r_Aimages r_Arings r_Astates r_Aheld r_Ahere r_Athere : Nat) (r_text : (Int → Int)) (r_typed : Int) (r_told : (Int → Int)) (r_draft : (Int → Int)) (r_begun : (Int → Int)) (r_s : (Int → Int)) (r_past : (Int → Int)) (r_known : Int) (r_images : (Int → Int)) (r_kept : Int) (r_rings : (Int → Int)) (r_rung : Int) (r_at : Int) (r_states : (Int → Int)) (r_held : (Int → Int)) (r_here : (Int → Int)) (r_there : (Int → Int)) (x1 : Int) (x2 : Int) (x3 : Int) (h_r_text : z_r r_text) (h_r_typed : z_n r_typed) (h_r_told : z_r r_told) (h_r_draft : z_r r_draft) (h_r_begun : z_r r_begun) (h_r_s : z_r r_s) (h_r_past : z_r r_past) (h_r_known : z_n r_known) (h_r_images : z_r r_images) (h_r_kept : z_n r_kept) (h_r_rings : z_r r_rings) (h_r_rung : z_n r_rung) (h_r_at : z_n r_at) (h_r_states : z_r r_states) (h_r_held : z_r r_held) (h_r_here : z_r r_here) (h_r_there : z_r r_there) (h_x1 : z_n x1) (h_x2 : z_n x2) (h_x3 : z_n x3) (rr : Int) (q_r_s : (Int → Int)) (q_r_states : (Int → Int)) (hm : m_X6_areApart N r_told r_s r_states r_held x1 x2 x3 = some (rr, q_r_s, q_r_states)) : z_M l G yX6_areApart cX6_areApart 5 (some .boolean) (k2_rm 6 139) [.ref r_o, z_i x1, z_i x2, z_i x3] ([(r_o, z_o 6 [.ref r_Atext, z_i r_typed, .ref r_Atold, .ref r_Adraft, .ref r_Abegun, .ref r_As, .ref r_Apast, z_i r_known, .ref r_Aimages, z_i r_kept, .ref r_Arings, z_i r_rung, z_i r_at, .ref r_Astates, .ref r_Aheld, .ref r_Ahere, .ref r_Athere]), (r_Atext, z_a G.2.1 200 r_text), (r_Atold, z_a G.2.1 39 r_told), (r_Adraft, z_a G.2.1 39 r_draft), (r_Abegun, z_a G.2.1 73 r_begun), (r_As, z_a G.2.1 73 r_s), (r_Apast, z_a G.2.1 584 r_past), (r_Aimages, z_a G.2.1 146 r_images), (r_Arings, z_a G.2.1 6 r_rings), (r_Astates, z_a G.2.1 36 r_states), (r_Aheld, z_a G.2.1 73 r_held), (r_Ahere, z_a G.2.2.2.2 36 r_here), (r_Athere, z_a G.2.2.2.2 36 r_there)]) 0 0 (fun v w => v = some (z_i rr) ∧ w = [(r_o, z_o 6 [.ref r_Atext, z_i r_typed, .ref r_Atold, .ref r_Adraft, .ref r_Abegun, .ref r_As, .ref r_Apast, z_i r_known, .ref r_Aimages, z_i r_kept, .ref r_Arings, z_i r_rung, z_i r_at, .ref r_Astates, .ref r_Aheld, .ref r_Ahere, .ref r_Athere]), (r_Atext, z_a G.2.1 200 r_text), (r_Atold, z_a G.2.1 39 r_told), (r_Adraft, z_a G.2.1 39 r_draft), (r_Abegun, z_a G.2.1 73 r_begun), (r_As, z_a G.2.1 73 q_r_s), (r_Apast, z_a G.2.1 584 r_past), (r_Aimages, z_a G.2.1 146 r_images), (r_Arings, z_a G.2.1 6 r_rings), (r_Astates, z_a G.2.1 36 q_r_states), (r_Aheld, z_a G.2.1 73 r_held), (r_Ahere, z_a G.2.2.2.2 36 r_here), (r_Athere, z_a G.2.2.2.2 36 r_there)] ∧ (rr = 0 ∨ rr = 1) ∧ z_r q_r_s ∧ z_r q_r_states ∧ True) := by
  unfold m_X6_areApart at hm
  refine z_M.intro (by decide +kernel) (Nat.le_of_ble_eq_true rfl) (L := [(0, .ref r_o), (1, z_i x1), (2, z_i x2), (3, z_i x3)]) rfl (fun X C E => ?_)
  refine z_iload_n C dX6_areApart_0 3 rfl ?_
  obtain ⟨r_s_4, hj, hm⟩ := z_b1s hm
  have J5 : z_r r_s_4 → z_J X 0 0 ([(r_o, z_o 6 [.ref r_Atext, z_i r_typed, .ref r_Atold, .ref r_Adraft, .ref r_Abegun, .ref r_As, .ref r_Apast, z_i r_known, .ref r_Aimages, z_i r_kept, .ref r_Arings, z_i r_rung, z_i r_at, .ref r_Astates, .ref r_Aheld, .ref r_Ahere, .ref r_Athere]), (r_Atext, z_a G.2.1 200 r_text), (r_Atold, z_a G.2.1 39 r_told), (r_Adraft, z_a G.2.1 39 r_draft), (r_Abegun, z_a G.2.1 73 r_begun), (r_As, z_a G.2.1 73 r_s_4), (r_Apast, z_a G.2.1 584 r_past), (r_Aimages, z_a G.2.1 146 r_images), (r_Arings, z_a G.2.1 6 r_rings), (r_Astates, z_a G.2.1 36 r_states), (r_Aheld, z_a G.2.1 73 r_held), (r_Ahere, z_a G.2.2.2.2 36 r_here), (r_Athere, z_a G.2.2.2.2 36 r_there)]) [(0, .ref r_o), (1, z_i x1), (2, z_i x2)] 9 [] := by
    intro h_r_s_4
    clear hj
    refine z_aload_n C dX6_areApart_9 0 rfl ?_
    refine z_iload_n C dX6_areApart_10 1 rfl ?_
    refine z_iload_n C dX6_areApart_11 2 rfl ?_
    obtain ⟨r6, r_states_7, k8, hm⟩ := z_b2s hm
    refine z_callVid C (k_X6_isOne l G N r_o r_Atext r_Atold r_Adraft r_Abegun r_As r_Apast r_Aimages r_Arings r_Astates r_Aheld r_Ahere r_Athere r_text r_typed r_told r_draft r_begun r_s_4 r_past r_known r_images r_kept r_rings r_rung r_at r_states r_held r_here r_there x1 x2 h_r_text h_r_typed h_r_told h_r_draft h_r_begun h_r_s_4 h_r_past h_r_known h_r_images h_r_kept h_r_rings h_r_rung h_r_at h_r_states h_r_held h_r_here h_r_there h_x1 h_x2 r6 r_states_7 k8) zv_X6_isOne zl_X6_146 dX6_areApart_12 rfl 0 rfl rfl rfl [] rfl (Nat.le_of_ble_eq_true rfl) ⟨Nat.le_of_ble_eq_true rfl, Nat.le_of_ble_eq_true rfl⟩ ⟨rfl, rfl⟩ ⟨Nat.zero_le _, Nat.zero_le _⟩ (fun hF => ?_)
    obtain ⟨hb_r6, h_r_states_7, -⟩ := hF
    obtain ⟨s10, hj, hm⟩ := z_b1s hm
    have J11 : z_n s10 → (s10 = 0 ∨ s10 = 1) → z_J X 0 0 ([(r_o, z_o 6 [.ref r_Atext, z_i r_typed, .ref r_Atold, .ref r_Adraft, .ref r_Abegun, .ref r_As, .ref r_Apast, z_i r_known, .ref r_Aimages, z_i r_kept, .ref r_Arings, z_i r_rung, z_i r_at, .ref r_Astates, .ref r_Aheld, .ref r_Ahere, .ref r_Athere]), (r_Atext, z_a G.2.1 200 r_text), (r_Atold, z_a G.2.1 39 r_told), (r_Adraft, z_a G.2.1 39 r_draft), (r_Abegun, z_a G.2.1 73 r_begun), (r_As, z_a G.2.1 73 r_s_4), (r_Apast, z_a G.2.1 584 r_past), (r_Aimages, z_a G.2.1 146 r_images), (r_Arings, z_a G.2.1 6 r_rings), (r_Astates, z_a G.2.1 36 r_states_7), (r_Aheld, z_a G.2.1 73 r_held), (r_Ahere, z_a G.2.2.2.2 36 r_here), (r_Athere, z_a G.2.2.2.2 36 r_there)]) [(0, .ref r_o)] 23 [z_i s10] := by
      intro h_s10 hb_s10
      clear hj
      refine z_istore C dX6_areApart_23 (by decide) (L' := [(4, z_i s10), (0, .ref r_o)]) rfl ?_
      refine z_aload_n C dX6_areApart_25 1 rfl ?_
      obtain ⟨r_s_12, k13, hm⟩ := z_b1s hm
      refine z_callVvd C (k_X6_lets l G N r_o r_Atext r_Atold r_Adraft r_Abegun r_As r_Apast r_Aimages r_Arings r_Astates r_Aheld r_Ahere r_Athere r_text r_typed r_told r_draft r_begun r_s_4 r_past r_known r_images r_kept r_rings r_rung r_at r_states_7 r_held r_here r_there h_r_text h_r_typed h_r_told h_r_draft h_r_begun h_r_s_4 h_r_past h_r_known h_r_images h_r_kept h_r_rings h_r_rung h_r_at h_r_states_7 h_r_held h_r_here h_r_there r_s_12 k13) zv_X6_lets zl_X6_140 dX6_areApart_26 rfl 0 rfl rfl rfl [] rfl (Nat.le_of_ble_eq_true rfl) ⟨Nat.le_of_ble_eq_true rfl, Nat.le_of_ble_eq_true rfl⟩ ⟨rfl, rfl⟩ ⟨Nat.zero_le _, Nat.zero_le _⟩ (fun hF => ?_)
      obtain ⟨h_r_s_12, -⟩ := hF
      refine z_iload C dX6_areApart_29 0 rfl ?_
      cases hm
      exact z_zret C E hb_s10 dX6_areApart_31 ⟨rfl, rfl, hb_s10, h_r_s_12, h_r_states_7, trivial⟩
    replace hm := hj
    clear hj
    refine z_if_ne (tgt := 22) C (z_n01 hb_r6) dX6_areApart_15 (by decide) (fun c9 => ?_) (fun c9 => ?_)
    · have hm := z_pos c9 hm
      refine z_iconst C dX6_areApart_22 ?_
      refine z_sub (L' := [(0, .ref r_o)]) [0] rfl ?_
      cases hm
      exact J11 (z_k 0 rfl) (Or.inl rfl)
    · have hm := z_neg c9 hm
      refine z_iconst C dX6_areApart_18 ?_
      refine z_goto (tgt := 23) C dX6_areApart_19 (by decide) ?_
      refine z_sub (L' := [(0, .ref r_o)]) [0] rfl ?_
      cases hm
      exact J11 (z_k 1 rfl) (Or.inr rfl)
  replace hm := hj
  clear hj
  refine z_if_le (tgt := 9) C h_x3 dX6_areApart_1 (by decide) (fun c1 => ?_) (fun c1 => ?_)
  · have hm := z_pos c1 hm
    refine z_sub (L' := [(0, .ref r_o), (1, z_i x1), (2, z_i x2)]) [0, 1, 2] rfl ?_
    cases hm
    exact J5 h_r_s
  · have hm := z_neg c1 hm
    refine z_aload_n C dX6_areApart_4 0 rfl ?_
    refine z_iload_n C dX6_areApart_5 3 rfl ?_
    obtain ⟨r_s_2, k3, hm⟩ := z_b1s hm
    refine z_callVvd C (k_X6_pours l G N r_o r_Atext r_Atold r_Adraft r_Abegun r_As r_Apast r_Aimages r_Arings r_Astates r_Aheld r_Ahere r_Athere r_text r_typed r_told r_draft r_begun r_s r_past r_known r_images r_kept r_rings r_rung r_at r_states r_held r_here r_there x3 h_r_text h_r_typed h_r_told h_r_draft h_r_begun h_r_s h_r_past h_r_known h_r_images h_r_kept h_r_rings h_r_rung h_r_at h_r_states h_r_held h_r_here h_r_there h_x3 r_s_2 k3) zv_X6_pours zl_X6_127 dX6_areApart_6 rfl 0 rfl rfl rfl [] rfl (Nat.le_of_ble_eq_true rfl) ⟨Nat.le_of_ble_eq_true rfl, Nat.le_of_ble_eq_true rfl⟩ ⟨rfl, rfl⟩ ⟨Nat.zero_le _, Nat.zero_le _⟩ (fun hF => ?_)
    obtain ⟨h_r_s_2, -⟩ := hF
    refine z_sub (L' := [(0, .ref r_o), (1, z_i x1), (2, z_i x2)]) [0, 1, 2] rfl ?_
    cases hm
    exact J5 h_r_s_2
set_option maxRecDepth 100000 in
theorem k_X6_kerb (l : Launch) (G : z_G) (N : Nat) (r_o r_Atext r_Atold r_Adraft r_Abegun r_As r_Apast r_Aimages r_Arings r_Astates r_Aheld r_Ahere r_Athere : Nat) (r_text : (Int → Int)) (r_typed : Int) (r_told : (Int → Int)) (r_draft : (Int → Int)) (r_begun : (Int → Int)) (r_s : (Int → Int)) (r_past : (Int → Int)) (r_known : Int) (r_images : (Int → Int)) (r_kept : Int) (r_rings : (Int → Int)) (r_rung : Int) (r_at : Int) (r_states : (Int → Int)) (r_held : (Int → Int)) (r_here : (Int → Int)) (r_there : (Int → Int)) (x1 : Int) (x2 : Int) (x3 : Int) (h_r_text : z_r r_text) (h_r_typed : z_n r_typed) (h_r_told : z_r r_told) (h_r_draft : z_r r_draft) (h_r_begun : z_r r_begun) (h_r_s : z_r r_s) (h_r_past : z_r r_past) (h_r_known : z_n r_known) (h_r_images : z_r r_images) (h_r_kept : z_n r_kept) (h_r_rings : z_r r_rings) (h_r_rung : z_n r_rung) (h_r_at : z_n r_at) (h_r_states : z_r r_states) (h_r_held : z_r r_held) (h_r_here : z_r r_here) (h_r_there : z_r r_there) (h_x1 : z_n x1) (h_x2 : z_n x2) (h_x3 : z_n x3) (rr : Int) (q_r_told : (Int → Int)) (q_r_s : (Int → Int)) (q_r_states : (Int → Int)) (q_r_held : (Int → Int)) (hm : m_X6_kerb N r_told r_s r_states r_held x1 x2 x3 = some (rr, q_r_told, q_r_s, q_r_states, q_r_held)) : z_M l G yX6_kerb cX6_kerb 7 (some .int) (k2_rm 7 163) [.ref r_o, z_i x1, z_i x2, z_i x3] ([(r_o, z_o 6 [.ref r_Atext, z_i r_typed, .ref r_Atold, .ref r_Adraft, .ref r_Abegun, .ref r_As, .ref r_Apast, z_i r_known, .ref r_Aimages, z_i r_kept, .ref r_Arings, z_i r_rung, z_i r_at, .ref r_Astates, .ref r_Aheld, .ref r_Ahere, .ref r_Athere]), (r_Atext, z_a G.2.1 200 r_text), (r_Atold, z_a G.2.1 39 r_told), (r_Adraft, z_a G.2.1 39 r_draft), (r_Abegun, z_a G.2.1 73 r_begun), (r_As, z_a G.2.1 73 r_s), (r_Apast, z_a G.2.1 584 r_past), (r_Aimages, z_a G.2.1 146 r_images), (r_Arings, z_a G.2.1 6 r_rings), (r_Astates, z_a G.2.1 36 r_states), (r_Aheld, z_a G.2.1 73 r_held), (r_Ahere, z_a G.2.2.2.2 36 r_here), (r_Athere, z_a G.2.2.2.2 36 r_there)]) 0 0 (fun v w => v = some (z_i rr) ∧ w = [(r_o, z_o 6 [.ref r_Atext, z_i r_typed, .ref r_Atold, .ref r_Adraft, .ref r_Abegun, .ref r_As, .ref r_Apast, z_i r_known, .ref r_Aimages, z_i r_kept, .ref r_Arings, z_i r_rung, z_i r_at, .ref r_Astates, .ref r_Aheld, .ref r_Ahere, .ref r_Athere]), (r_Atext, z_a G.2.1 200 r_text), (r_Atold, z_a G.2.1 39 q_r_told), (r_Adraft, z_a G.2.1 39 r_draft), (r_Abegun, z_a G.2.1 73 r_begun), (r_As, z_a G.2.1 73 q_r_s), (r_Apast, z_a G.2.1 584 r_past), (r_Aimages, z_a G.2.1 146 r_images), (r_Arings, z_a G.2.1 6 r_rings), (r_Astates, z_a G.2.1 36 q_r_states), (r_Aheld, z_a G.2.1 73 q_r_held), (r_Ahere, z_a G.2.2.2.2 36 r_here), (r_Athere, z_a G.2.2.2.2 36 r_there)] ∧ z_n rr ∧ z_r q_r_told ∧ z_r q_r_s ∧ z_r q_r_states ∧ z_r q_r_held ∧ True) := by
  unfold m_X6_kerb at hm
  refine z_M.intro (by decide +kernel) (Nat.le_of_ble_eq_true rfl) (L := [(0, .ref r_o), (1, z_i x1), (2, z_i x2), (3, z_i x3)]) rfl (fun X C E => ?_)
  refine z_aload_n C dX6_kerb_0 0 rfl ?_
  refine z_iload_n C dX6_kerb_1 1 rfl ?_
  obtain ⟨r1, k2, hm⟩ := z_b1s hm
  refine z_callVid C (k_X6_isCell l G N r_o r_Atext r_Atold r_Adraft r_Abegun r_As r_Apast r_Aimages r_Arings r_Astates r_Aheld r_Ahere r_Athere r_text r_typed r_told r_draft r_begun r_s r_past r_known r_images r_kept r_rings r_rung r_at r_states r_held r_here r_there x1 h_r_text h_r_typed h_r_told h_r_draft h_r_begun h_r_s h_r_past h_r_known h_r_images h_r_kept h_r_rings h_r_rung h_r_at h_r_states h_r_held h_r_here h_r_there h_x1 r1 k2) zv_X6_isCell zl_X6_98 dX6_kerb_2 rfl 0 rfl rfl rfl [] rfl (Nat.le_of_ble_eq_true rfl) ⟨Nat.le_of_ble_eq_true rfl, Nat.le_of_ble_eq_true rfl⟩ ⟨rfl, rfl⟩ ⟨Nat.zero_le _, Nat.zero_le _⟩ (fun hF => ?_)
  obtain ⟨hb_r1, -⟩ := hF
  refine z_if_eq (tgt := 31) C (z_n01 hb_r1) dX6_kerb_5 (by decide) (fun c3 => ?_) (fun c3 => ?_)
  · have hm := z_pos c3 hm
    refine z_iconst C dX6_kerb_31 ?_
    cases hm
    exact z_iret C E dX6_kerb_32 ⟨rfl, rfl, (z_k (-1) rfl), h_r_told, h_r_s, h_r_states, h_r_held, trivial⟩
  · have hm := z_neg c3 hm
    refine z_aload_n C dX6_kerb_8 0 rfl ?_
    refine z_iload_n C dX6_kerb_9 2 rfl ?_
    obtain ⟨r4, k5, hm⟩ := z_b1s hm
    refine z_callVid C (k_X6_isCell l G N r_o r_Atext r_Atold r_Adraft r_Abegun r_As r_Apast r_Aimages r_Arings r_Astates r_Aheld r_Ahere r_Athere r_text r_typed r_told r_draft r_begun r_s r_past r_known r_images r_kept r_rings r_rung r_at r_states r_held r_here r_there x2 h_r_text h_r_typed h_r_told h_r_draft h_r_begun h_r_s h_r_past h_r_known h_r_images h_r_kept h_r_rings h_r_rung h_r_at h_r_states h_r_held h_r_here h_r_there h_x2 r4 k5) zv_X6_isCell zl_X6_98 dX6_kerb_10 rfl 0 rfl rfl rfl [] rfl (Nat.le_of_ble_eq_true rfl) ⟨Nat.le_of_ble_eq_true rfl, Nat.le_of_ble_eq_true rfl⟩ ⟨rfl, rfl⟩ ⟨Nat.zero_le _, Nat.zero_le _⟩ (fun hF => ?_)
    obtain ⟨hb_r4, -⟩ := hF
    refine z_if_eq (tgt := 31) C (z_n01 hb_r4) dX6_kerb_13 (by decide) (fun c6 => ?_) (fun c6 => ?_)
    · have hm := z_pos c6 hm
      refine z_iconst C dX6_kerb_31 ?_
      cases hm
      exact z_iret C E dX6_kerb_32 ⟨rfl, rfl, (z_k (-1) rfl), h_r_told, h_r_s, h_r_states, h_r_held, trivial⟩
    · have hm := z_neg c6 hm
      refine z_iload_n C dX6_kerb_16 1 rfl ?_
      refine z_iload_n C dX6_kerb_17 2 rfl ?_
      refine z_icmp_eq (tgt := 31) C h_x1 h_x2 dX6_kerb_18 (by decide) (fun c7 => ?_) (fun c7 => ?_)
      · have hm := z_pos c7 hm
        refine z_iconst C dX6_kerb_31 ?_
        cases hm
        exact z_iret C E dX6_kerb_32 ⟨rfl, rfl, (z_k (-1) rfl), h_r_told, h_r_s, h_r_states, h_r_held, trivial⟩
      · have hm := z_neg c7 hm
        refine z_iload_n C dX6_kerb_21 3 rfl ?_
        refine z_iconst C dX6_kerb_22 ?_
        refine z_bipush C dX6_kerb_23 (by decide) ?_
        obtain ⟨r8, k9, hm⟩ := z_b1s hm
        refine z_callSi C (k_X6_in l G N x3 0 9 h_x3 (z_k 0 rfl) (z_k 9 rfl) r8 k9) zs_X6_in zl_X6_57 dX6_kerb_25 [] rfl rfl rfl (ws' := [(r_o, z_o 6 [.ref r_Atext, z_i r_typed, .ref r_Atold, .ref r_Adraft, .ref r_Abegun, .ref r_As, .ref r_Apast, z_i r_known, .ref r_Aimages, z_i r_kept, .ref r_Arings, z_i r_rung, z_i r_at, .ref r_Astates, .ref r_Aheld, .ref r_Ahere, .ref r_Athere]), (r_Atext, z_a G.2.1 200 r_text), (r_Atold, z_a G.2.1 39 r_told), (r_Adraft, z_a G.2.1 39 r_draft), (r_Abegun, z_a G.2.1 73 r_begun), (r_As, z_a G.2.1 73 r_s), (r_Apast, z_a G.2.1 584 r_past), (r_Aimages, z_a G.2.1 146 r_images), (r_Arings, z_a G.2.1 6 r_rings), (r_Astates, z_a G.2.1 36 r_states), (r_Aheld, z_a G.2.1 73 r_held), (r_Ahere, z_a G.2.2.2.2 36 r_here), (r_Athere, z_a G.2.2.2.2 36 r_there)]) rfl rfl [] rfl (Nat.le_of_ble_eq_true rfl) ⟨Nat.le_of_ble_eq_true rfl, Nat.le_of_ble_eq_true rfl⟩ ⟨rfl, rfl⟩ ⟨Nat.zero_le _, Nat.zero_le _⟩ (fun hF => ?_)
        obtain ⟨hb_r8, -⟩ := hF
        refine z_if_ne (tgt := 33) C (z_n01 hb_r8) dX6_kerb_28 (by decide) (fun c10 => ?_) (fun c10 => ?_)
        · have hm := z_pos c10 hm
          refine z_aload_n C dX6_kerb_33 0 rfl ?_
          obtain ⟨r_held_11, k12, hm⟩ := z_b1s hm
          refine z_callVvd C (k_X6_holds l G N r_o r_Atext r_Atold r_Adraft r_Abegun r_As r_Apast r_Aimages r_Arings r_Astates r_Aheld r_Ahere r_Athere r_text r_typed r_told r_draft r_begun r_s r_past r_known r_images r_kept r_rings r_rung r_at r_states r_held r_here r_there h_r_text h_r_typed h_r_told h_r_draft h_r_begun h_r_s h_r_past h_r_known h_r_images h_r_kept h_r_rings h_r_rung h_r_at h_r_states h_r_held h_r_here h_r_there r_held_11 k12) zv_X6_holds zl_X6_137 dX6_kerb_34 rfl 0 rfl rfl rfl [] rfl (Nat.le_of_ble_eq_true rfl) ⟨Nat.le_of_ble_eq_true rfl, Nat.le_of_ble_eq_true rfl⟩ ⟨rfl, rfl⟩ ⟨Nat.zero_le _, Nat.zero_le _⟩ (fun hF => ?_)
          obtain ⟨h_r_held_11, -⟩ := hF
          refine z_aload_n C dX6_kerb_37 0 rfl ?_
          refine z_iload_n C dX6_kerb_38 1 rfl ?_
          refine z_iload_n C dX6_kerb_39 2 rfl ?_
          refine z_iload_n C dX6_kerb_40 3 rfl ?_
          obtain ⟨r13, r_s_14, r_states_15, k16, hm⟩ := z_b3s hm
          refine z_callVid C (k_X6_areApart l G N r_o r_Atext r_Atold r_Adraft r_Abegun r_As r_Apast r_Aimages r_Arings r_Astates r_Aheld r_Ahere r_Athere r_text r_typed r_told r_draft r_begun r_s r_past r_known r_images r_kept r_rings r_rung r_at r_states r_held_11 r_here r_there x1 x2 x3 h_r_text h_r_typed h_r_told h_r_draft h_r_begun h_r_s h_r_past h_r_known h_r_images h_r_kept h_r_rings h_r_rung h_r_at h_r_states h_r_held_11 h_r_here h_r_there h_x1 h_x2 h_x3 r13 r_s_14 r_states_15 k16) zv_X6_areApart zl_X6_150 dX6_kerb_41 rfl 0 rfl rfl rfl [] rfl (Nat.le_of_ble_eq_true rfl) ⟨Nat.le_of_ble_eq_true rfl, Nat.le_of_ble_eq_true rfl⟩ ⟨rfl, rfl⟩ ⟨Nat.zero_le _, Nat.zero_le _⟩ (fun hF => ?_)
          obtain ⟨hb_r13, h_r_s_14, h_r_states_15, -⟩ := hF
          refine z_if_eq (tgt := 50) C (z_n01 hb_r13) dX6_kerb_44 (by decide) (fun c17 => ?_) (fun c17 => ?_)
          · have hm := z_pos c17 hm
            refine z_iconst C dX6_kerb_50 ?_
            refine z_istore C dX6_kerb_51 (by decide) (L' := [(4, z_i 0), (0, .ref r_o), (1, z_i x1), (2, z_i x2), (3, z_i x3)]) rfl ?_
            have L1 : ∀ (n1 : Nat) (v4_1 : Int) (r_told_1 : (Int → Int)) (r_s_1 : (Int → Int)) (r_states_1 : (Int → Int)), z_n v4_1 → z_r r_told_1 → z_r r_s_1 → z_r r_states_1 → m_X6_kerb_l1 N r_held_11 x1 x2 x3 n1 v4_1 r_told_1 r_s_1 r_states_1 = some (rr, q_r_told, q_r_s, q_r_states, q_r_held) → z_J X 0 0 ([(r_o, z_o 6 [.ref r_Atext, z_i r_typed, .ref r_Atold, .ref r_Adraft, .ref r_Abegun, .ref r_As, .ref r_Apast, z_i r_known, .ref r_Aimages, z_i r_kept, .ref r_Arings, z_i r_rung, z_i r_at, .ref r_Astates, .ref r_Aheld, .ref r_Ahere, .ref r_Athere]), (r_Atext, z_a G.2.1 200 r_text), (r_Atold, z_a G.2.1 39 r_told_1), (r_Adraft, z_a G.2.1 39 r_draft), (r_Abegun, z_a G.2.1 73 r_begun), (r_As, z_a G.2.1 73 r_s_1), (r_Apast, z_a G.2.1 584 r_past), (r_Aimages, z_a G.2.1 146 r_images), (r_Arings, z_a G.2.1 6 r_rings), (r_Astates, z_a G.2.1 36 r_states_1), (r_Aheld, z_a G.2.1 73 r_held_11), (r_Ahere, z_a G.2.2.2.2 36 r_here), (r_Athere, z_a G.2.2.2.2 36 r_there)]) [(0, .ref r_o), (1, z_i x1), (2, z_i x2), (3, z_i x3), (4, z_i v4_1)] 53 [] := by
              clear hm
              intro n1
              induction n1 with
              | zero =>
                intro v4_1 r_told_1 r_s_1 r_states_1 h_v4_1 h_r_told_1 h_r_s_1 h_r_states_1 hm
                rw [m_X6_kerb_l1] at hm
                cases hm
              | succ n1 ih1 =>
                intro v4_1 r_told_1 r_s_1 r_states_1 h_v4_1 h_r_told_1 h_r_s_1 h_r_states_1 hm
                rw [m_X6_kerb_l1] at hm
                refine z_iload C dX6_kerb_53 4 rfl ?_
                refine z_aload_n C dX6_kerb_55 0 rfl ?_
                obtain ⟨r18, k19, hm⟩ := z_b1s hm
                refine z_callVid C (k_X6_cells l G N r_o r_Atext r_Atold r_Adraft r_Abegun r_As r_Apast r_Aimages r_Arings r_Astates r_Aheld r_Ahere r_Athere r_text r_typed r_told_1 r_draft r_begun r_s_1 r_past r_known r_images r_kept r_rings r_rung r_at r_states_1 r_held_11 r_here r_there h_r_text h_r_typed h_r_told_1 h_r_draft h_r_begun h_r_s_1 h_r_past h_r_known h_r_images h_r_kept h_r_rings h_r_rung h_r_at h_r_states_1 h_r_held_11 h_r_here h_r_there r18 k19) zv_X6_cells zl_X6_53 dX6_kerb_56 rfl 0 rfl rfl rfl [z_i v4_1] rfl (Nat.le_of_ble_eq_true rfl) ⟨Nat.le_of_ble_eq_true rfl, Nat.le_of_ble_eq_true rfl⟩ ⟨rfl, rfl⟩ ⟨Nat.zero_le _, Nat.zero_le _⟩ (fun hF => ?_)
                obtain ⟨h_r18, -⟩ := hF
                refine z_icmp_ge (tgt := 152) C h_v4_1 h_r18 dX6_kerb_59 (by decide) (fun c20 => ?_) (fun c20 => ?_)
                · have hm := z_pos c20 hm
                  refine z_bipush C dX6_kerb_152 (by decide) ?_
                  cases hm
                  exact z_iret C E dX6_kerb_154 ⟨rfl, rfl, (z_k (-4) rfl), h_r_told_1, h_r_s_1, h_r_states_1, h_r_held_11, trivial⟩
                · have hm := z_neg c20 hm
                  refine z_iload C dX6_kerb_62 4 rfl ?_
                  refine z_iload_n C dX6_kerb_64 1 rfl ?_
                  refine z_icmp_eq (tgt := 146) C h_v4_1 h_x1 dX6_kerb_65 (by decide) (fun c21 => ?_) (fun c21 => ?_)
                  · have hm := z_pos c21 hm
                    obtain ⟨c22, hm⟩ := z_chk_some hm
                    refine z_iinc C dX6_kerb_146 4 rfl (by decide) (L' := [(4, z_i (v4_1 + 1)), (0, .ref r_o), (1, z_i x1), (2, z_i x2), (3, z_i x3)]) rfl ?_
                    refine z_goto (tgt := 53) C dX6_kerb_149 (by decide) ?_
                    refine z_sub (L' := [(0, .ref r_o), (1, z_i x1), (2, z_i x2), (3, z_i x3), (4, z_i (v4_1 + 1))]) [1, 2, 3, 4, 0] rfl ?_
                    exact ih1 (v4_1 + 1) r_told_1 r_s_1 r_states_1 c22 h_r_told_1 h_r_s_1 h_r_states_1 hm
                  · have hm := z_neg c21 hm
                    refine z_iload C dX6_kerb_68 4 rfl ?_
                    refine z_iload_n C dX6_kerb_70 2 rfl ?_
                    refine z_icmp_eq (tgt := 146) C h_v4_1 h_x2 dX6_kerb_71 (by decide) (fun c23 => ?_) (fun c23 => ?_)
                    · have hm := z_pos c23 hm
                      obtain ⟨c24, hm⟩ := z_chk_some hm
                      refine z_iinc C dX6_kerb_146 4 rfl (by decide) (L' := [(4, z_i (v4_1 + 1)), (0, .ref r_o), (1, z_i x1), (2, z_i x2), (3, z_i x3)]) rfl ?_
                      refine z_goto (tgt := 53) C dX6_kerb_149 (by decide) ?_
                      refine z_sub (L' := [(0, .ref r_o), (1, z_i x1), (2, z_i x2), (3, z_i x3), (4, z_i (v4_1 + 1))]) [1, 2, 3, 4, 0] rfl ?_
                      exact ih1 (v4_1 + 1) r_told_1 r_s_1 r_states_1 c24 h_r_told_1 h_r_s_1 h_r_states_1 hm
                    · have hm := z_neg c23 hm
                      refine z_aload_n C dX6_kerb_74 0 rfl ?_
                      refine z_get C zf_X6_13 dX6_kerb_75 0 rfl rfl ?_
                      refine z_iconst C dX6_kerb_78 ?_
                      refine z_iload C dX6_kerb_79 4 rfl ?_
                      obtain ⟨c25, hm⟩ := z_chk_some hm
                      refine z_iadd C dX6_kerb_81 ?_
                      obtain ⟨c26, hm⟩ := z_chk_some hm
                      refine z_iald C dX6_kerb_82 2 rfl c26 c25 ?_
                      refine z_iconst C dX6_kerb_83 ?_
                      refine z_icmp_eq (tgt := 146) C (h_r_told_1 _) (z_k 3 rfl) dX6_kerb_84 (by decide) (fun c27 => ?_) (fun c27 => ?_)
                      · have hm := z_pos c27 hm
                        obtain ⟨c28, hm⟩ := z_chk_some hm
                        refine z_iinc C dX6_kerb_146 4 rfl (by decide) (L' := [(4, z_i (v4_1 + 1)), (0, .ref r_o), (1, z_i x1), (2, z_i x2), (3, z_i x3)]) rfl ?_
                        refine z_goto (tgt := 53) C dX6_kerb_149 (by decide) ?_
                        refine z_sub (L' := [(0, .ref r_o), (1, z_i x1), (2, z_i x2), (3, z_i x3), (4, z_i (v4_1 + 1))]) [1, 2, 3, 4, 0] rfl ?_
                        exact ih1 (v4_1 + 1) r_told_1 r_s_1 r_states_1 c28 h_r_told_1 h_r_s_1 h_r_states_1 hm
                      · have hm := z_neg c27 hm
                        refine z_aload_n C dX6_kerb_87 0 rfl ?_
                        refine z_get C zf_X6_22 dX6_kerb_88 0 rfl rfl ?_
                        refine z_iload C dX6_kerb_91 4 rfl ?_
                        obtain ⟨c29, hm⟩ := z_chk_some hm
                        refine z_iald C dX6_kerb_93 5 rfl c29 h_v4_1 ?_
                        refine z_if_ne (tgt := 146) C (h_r_s_1 _) dX6_kerb_94 (by decide) (fun c30 => ?_) (fun c30 => ?_)
                        · have hm := z_pos c30 hm
                          obtain ⟨c31, hm⟩ := z_chk_some hm
                          refine z_iinc C dX6_kerb_146 4 rfl (by decide) (L' := [(4, z_i (v4_1 + 1)), (0, .ref r_o), (1, z_i x1), (2, z_i x2), (3, z_i x3)]) rfl ?_
                          refine z_goto (tgt := 53) C dX6_kerb_149 (by decide) ?_
                          refine z_sub (L' := [(0, .ref r_o), (1, z_i x1), (2, z_i x2), (3, z_i x3), (4, z_i (v4_1 + 1))]) [1, 2, 3, 4, 0] rfl ?_
                          exact ih1 (v4_1 + 1) r_told_1 r_s_1 r_states_1 c31 h_r_told_1 h_r_s_1 h_r_states_1 hm
                        · have hm := z_neg c30 hm
                          refine z_aload_n C dX6_kerb_97 0 rfl ?_
                          refine z_get C zf_X6_13 dX6_kerb_98 0 rfl rfl ?_
                          refine z_iconst C dX6_kerb_101 ?_
                          refine z_iload C dX6_kerb_102 4 rfl ?_
                          obtain ⟨c32, hm⟩ := z_chk_some hm
                          refine z_iadd C dX6_kerb_104 ?_
                          obtain ⟨c33, hm⟩ := z_chk_some hm
                          refine z_iald C dX6_kerb_105 2 rfl c33 c32 ?_
                          refine z_istore C dX6_kerb_106 (by decide) (L' := [(5, z_i (r_told_1 (3 + v4_1))), (0, .ref r_o), (1, z_i x1), (2, z_i x2), (3, z_i x3), (4, z_i v4_1)]) rfl ?_
                          refine z_aload_n C dX6_kerb_108 1 rfl ?_
                          refine z_get C zf_X6_13 dX6_kerb_109 0 rfl rfl ?_
                          refine z_iconst C dX6_kerb_112 ?_
                          refine z_iload C dX6_kerb_113 5 rfl ?_
                          obtain ⟨c34, hm⟩ := z_chk_some hm
                          refine z_iadd C dX6_kerb_115 ?_
                          refine z_iconst C dX6_kerb_116 ?_
                          obtain ⟨c35, hm⟩ := z_chk_some hm
                          refine z_iast C dX6_kerb_117 2 rfl c35 c34 (ws' := [(r_o, z_o 6 [.ref r_Atext, z_i r_typed, .ref r_Atold, .ref r_Adraft, .ref r_Abegun, .ref r_As, .ref r_Apast, z_i r_known, .ref r_Aimages, z_i r_kept, .ref r_Arings, z_i r_rung, z_i r_at, .ref r_Astates, .ref r_Aheld, .ref r_Ahere, .ref r_Athere]), (r_Atext, z_a G.2.1 200 r_text), (r_Atold, z_a G.2.1 39 (z_up r_told_1 (3 + v4_1) 3)), (r_Adraft, z_a G.2.1 39 r_draft), (r_Abegun, z_a G.2.1 73 r_begun), (r_As, z_a G.2.1 73 r_s_1), (r_Apast, z_a G.2.1 584 r_past), (r_Aimages, z_a G.2.1 146 r_images), (r_Arings, z_a G.2.1 6 r_rings), (r_Astates, z_a G.2.1 36 r_states_1), (r_Aheld, z_a G.2.1 73 r_held_11), (r_Ahere, z_a G.2.2.2.2 36 r_here), (r_Athere, z_a G.2.2.2.2 36 r_there)]) rfl ?_
                          refine z_aload_n C dX6_kerb_118 1 rfl ?_
                          refine z_iload_n C dX6_kerb_119 2 rfl ?_
                          refine z_iload_n C dX6_kerb_120 3 rfl ?_
                          refine z_iload_n C dX6_kerb_121 4 rfl ?_
                          obtain ⟨r36, r_s_37, r_states_38, k39, hm⟩ := z_b3s hm
                          refine z_callVid C (k_X6_areApart l G N r_o r_Atext r_Atold r_Adraft r_Abegun r_As r_Apast r_Aimages r_Arings r_Astates r_Aheld r_Ahere r_Athere r_text r_typed (z_up r_told_1 (3 + v4_1) 3) r_draft r_begun r_s_1 r_past r_known r_images r_kept r_rings r_rung r_at r_states_1 r_held_11 r_here r_there x1 x2 x3 h_r_text h_r_typed (z_r_up h_r_told_1 (z_k 3 rfl)) h_r_draft h_r_begun h_r_s_1 h_r_past h_r_known h_r_images h_r_kept h_r_rings h_r_rung h_r_at h_r_states_1 h_r_held_11 h_r_here h_r_there h_x1 h_x2 h_x3 r36 r_s_37 r_states_38 k39) zv_X6_areApart zl_X6_150 dX6_kerb_122 rfl 0 rfl rfl rfl [] rfl (Nat.le_of_ble_eq_true rfl) ⟨Nat.le_of_ble_eq_true rfl, Nat.le_of_ble_eq_true rfl⟩ ⟨rfl, rfl⟩ ⟨Nat.zero_le _, Nat.zero_le _⟩ (fun hF => ?_)
                          obtain ⟨hb_r36, h_r_s_37, h_r_states_38, -⟩ := hF
                          refine z_istore C dX6_kerb_125 (by decide) (L' := [(6, z_i r36), (5, z_i (r_told_1 (3 + v4_1))), (0, .ref r_o), (1, z_i x1), (2, z_i x2), (3, z_i x3), (4, z_i v4_1)]) rfl ?_
                          refine z_aload_n C dX6_kerb_127 2 rfl ?_
                          refine z_get C zf_X6_13 dX6_kerb_128 0 rfl rfl ?_
                          refine z_iconst C dX6_kerb_131 ?_
                          refine z_iload C dX6_kerb_132 6 rfl ?_
                          obtain ⟨c40, hm⟩ := z_chk_some hm
                          refine z_iadd C dX6_kerb_134 ?_
                          refine z_iload C dX6_kerb_135 1 rfl ?_
                          obtain ⟨c41, hm⟩ := z_chk_some hm
                          refine z_iast C dX6_kerb_137 2 rfl c41 c40 (ws' := [(r_o, z_o 6 [.ref r_Atext, z_i r_typed, .ref r_Atold, .ref r_Adraft, .ref r_Abegun, .ref r_As, .ref r_Apast, z_i r_known, .ref r_Aimages, z_i r_kept, .ref r_Arings, z_i r_rung, z_i r_at, .ref r_Astates, .ref r_Aheld, .ref r_Ahere, .ref r_Athere]), (r_Atext, z_a G.2.1 200 r_text), (r_Atold, z_a G.2.1 39 (z_up (z_up r_told_1 (3 + v4_1) 3) (3 + v4_1) (r_told_1 (3 + v4_1)))), (r_Adraft, z_a G.2.1 39 r_draft), (r_Abegun, z_a G.2.1 73 r_begun), (r_As, z_a G.2.1 73 r_s_37), (r_Apast, z_a G.2.1 584 r_past), (r_Aimages, z_a G.2.1 146 r_images), (r_Arings, z_a G.2.1 6 r_rings), (r_Astates, z_a G.2.1 36 r_states_38), (r_Aheld, z_a G.2.1 73 r_held_11), (r_Ahere, z_a G.2.2.2.2 36 r_here), (r_Athere, z_a G.2.2.2.2 36 r_there)]) rfl ?_
                          refine z_iload C dX6_kerb_138 0 rfl ?_
                          refine z_if_eq (tgt := 146) C (z_n01 hb_r36) dX6_kerb_140 (by decide) (fun c42 => ?_) (fun c42 => ?_)
                          · have hm := z_pos c42 hm
                            obtain ⟨c43, hm⟩ := z_chk_some hm
                            refine z_iinc C dX6_kerb_146 6 rfl (by decide) (L' := [(4, z_i (v4_1 + 1)), (6, z_i r36), (5, z_i (r_told_1 (3 + v4_1))), (0, .ref r_o), (1, z_i x1), (2, z_i x2), (3, z_i x3)]) rfl ?_
                            refine z_goto (tgt := 53) C dX6_kerb_149 (by decide) ?_
                            refine z_sub (L' := [(0, .ref r_o), (1, z_i x1), (2, z_i x2), (3, z_i x3), (4, z_i (v4_1 + 1))]) [3, 4, 5, 6, 0] rfl ?_
                            exact ih1 (v4_1 + 1) (z_up (z_up r_told_1 (3 + v4_1) 3) (3 + v4_1) (r_told_1 (3 + v4_1))) r_s_37 r_states_38 c43 (z_r_up (z_r_up h_r_told_1 (z_k 3 rfl)) (h_r_told_1 _)) h_r_s_37 h_r_states_38 hm
                          · have hm := z_neg c42 hm
                            refine z_iload C dX6_kerb_143 6 rfl ?_
                            cases hm
                            exact z_iret C E dX6_kerb_145 ⟨rfl, rfl, h_v4_1, (z_r_up (z_r_up h_r_told_1 (z_k 3 rfl)) (h_r_told_1 _)), h_r_s_37, h_r_states_38, h_r_held_11, trivial⟩
            refine z_sub (L' := [(0, .ref r_o), (1, z_i x1), (2, z_i x2), (3, z_i x3), (4, z_i 0)]) [1, 2, 3, 4, 0] rfl ?_
            exact L1 N 0 r_told r_s_14 r_states_15 (z_k 0 rfl) h_r_told h_r_s_14 h_r_states_15 hm
          · have hm := z_neg c17 hm
            refine z_bipush C dX6_kerb_47 (by decide) ?_
            cases hm
            exact z_iret C E dX6_kerb_49 ⟨rfl, rfl, (z_k 100 rfl), h_r_told, h_r_s_14, h_r_states_15, h_r_held_11, trivial⟩
        · have hm := z_neg c10 hm
          refine z_iconst C dX6_kerb_31 ?_
          cases hm
          exact z_iret C E dX6_kerb_32 ⟨rfl, rfl, (z_k (-1) rfl), h_r_told, h_r_s, h_r_states, h_r_held, trivial⟩
set_option maxRecDepth 100000 in
theorem k_X6_ring (l : Launch) (G : z_G) (N : Nat) (r_o r_Atext r_Atold r_Adraft r_Abegun r_As r_Apast r_Aimages r_Arings r_Astates r_Aheld r_Ahere r_Athere : Nat) (r_text : (Int → Int)) (r_typed : Int) (r_told : (Int → Int)) (r_draft : (Int → Int)) (r_begun : (Int → Int)) (r_s : (Int → Int)) (r_past : (Int → Int)) (r_known : Int) (r_images : (Int → Int)) (r_kept : Int) (r_rings : (Int → Int)) (r_rung : Int) (r_at : Int) (r_states : (Int → Int)) (r_held : (Int → Int)) (r_here : (Int → Int)) (r_there : (Int → Int)) (x1 : Int) (x2 : Int) (h_r_text : z_r r_text) (h_r_typed : z_n r_typed) (h_r_told : z_r r_told) (h_r_draft : z_r r_draft) (h_r_begun : z_r r_begun) (h_r_s : z_r r_s) (h_r_past : z_r r_past) (h_r_known : z_n r_known) (h_r_images : z_r r_images) (h_r_kept : z_n r_kept) (h_r_rings : z_r r_rings) (h_r_rung : z_n r_rung) (h_r_at : z_n r_at) (h_r_states : z_r r_states) (h_r_held : z_r r_held) (h_r_here : z_r r_here) (h_r_there : z_r r_there) (h_x1 : z_n x1) (h_x2 : z_n x2) (rr : Int) (q_r_rings : (Int → Int)) (q_r_rung : Int) (hm : m_X6_ring N r_told r_rings r_rung x1 x2 = some (rr, q_r_rings, q_r_rung)) : z_M l G yX6_ring cX6_ring 3 (some .int) (k2_rm 2 43) [.ref r_o, z_i x1, z_i x2] ([(r_o, z_o 6 [.ref r_Atext, z_i r_typed, .ref r_Atold, .ref r_Adraft, .ref r_Abegun, .ref r_As, .ref r_Apast, z_i r_known, .ref r_Aimages, z_i r_kept, .ref r_Arings, z_i r_rung, z_i r_at, .ref r_Astates, .ref r_Aheld, .ref r_Ahere, .ref r_Athere]), (r_Atext, z_a G.2.1 200 r_text), (r_Atold, z_a G.2.1 39 r_told), (r_Adraft, z_a G.2.1 39 r_draft), (r_Abegun, z_a G.2.1 73 r_begun), (r_As, z_a G.2.1 73 r_s), (r_Apast, z_a G.2.1 584 r_past), (r_Aimages, z_a G.2.1 146 r_images), (r_Arings, z_a G.2.1 6 r_rings), (r_Astates, z_a G.2.1 36 r_states), (r_Aheld, z_a G.2.1 73 r_held), (r_Ahere, z_a G.2.2.2.2 36 r_here), (r_Athere, z_a G.2.2.2.2 36 r_there)]) 0 0 (fun v w => v = some (z_i rr) ∧ w = [(r_o, z_o 6 [.ref r_Atext, z_i r_typed, .ref r_Atold, .ref r_Adraft, .ref r_Abegun, .ref r_As, .ref r_Apast, z_i r_known, .ref r_Aimages, z_i r_kept, .ref r_Arings, z_i q_r_rung, z_i r_at, .ref r_Astates, .ref r_Aheld, .ref r_Ahere, .ref r_Athere]), (r_Atext, z_a G.2.1 200 r_text), (r_Atold, z_a G.2.1 39 r_told), (r_Adraft, z_a G.2.1 39 r_draft), (r_Abegun, z_a G.2.1 73 r_begun), (r_As, z_a G.2.1 73 r_s), (r_Apast, z_a G.2.1 584 r_past), (r_Aimages, z_a G.2.1 146 r_images), (r_Arings, z_a G.2.1 6 q_r_rings), (r_Astates, z_a G.2.1 36 r_states), (r_Aheld, z_a G.2.1 73 r_held), (r_Ahere, z_a G.2.2.2.2 36 r_here), (r_Athere, z_a G.2.2.2.2 36 r_there)] ∧ z_n rr ∧ z_r q_r_rings ∧ z_n q_r_rung ∧ True) := by
  unfold m_X6_ring at hm
  refine z_M.intro (by decide +kernel) (Nat.le_of_ble_eq_true rfl) (L := [(0, .ref r_o), (1, z_i x1), (2, z_i x2)]) rfl (fun X C E => ?_)
  refine z_aload_n C dX6_ring_0 0 rfl ?_
  refine z_iload_n C dX6_ring_1 1 rfl ?_
  obtain ⟨r1, k2, hm⟩ := z_b1s hm
  refine z_callVid C (k_X6_isCell l G N r_o r_Atext r_Atold r_Adraft r_Abegun r_As r_Apast r_Aimages r_Arings r_Astates r_Aheld r_Ahere r_Athere r_text r_typed r_told r_draft r_begun r_s r_past r_known r_images r_kept r_rings r_rung r_at r_states r_held r_here r_there x1 h_r_text h_r_typed h_r_told h_r_draft h_r_begun h_r_s h_r_past h_r_known h_r_images h_r_kept h_r_rings h_r_rung h_r_at h_r_states h_r_held h_r_here h_r_there h_x1 r1 k2) zv_X6_isCell zl_X6_98 dX6_ring_2 rfl 0 rfl rfl rfl [] rfl (Nat.le_of_ble_eq_true rfl) ⟨Nat.le_of_ble_eq_true rfl, Nat.le_of_ble_eq_true rfl⟩ ⟨rfl, rfl⟩ ⟨Nat.zero_le _, Nat.zero_le _⟩ (fun hF => ?_)
  obtain ⟨hb_r1, -⟩ := hF
  refine z_if_eq (tgt := 18) C (z_n01 hb_r1) dX6_ring_5 (by decide) (fun c3 => ?_) (fun c3 => ?_)
  · have hm := z_pos c3 hm
    refine z_iconst C dX6_ring_18 ?_
    cases hm
    exact z_iret C E dX6_ring_19 ⟨rfl, rfl, (z_k (-1) rfl), h_r_rings, h_r_rung, trivial⟩
  · have hm := z_neg c3 hm
    refine z_iload_n C dX6_ring_8 2 rfl ?_
    refine z_iconst C dX6_ring_9 ?_
    refine z_bipush C dX6_ring_10 (by decide) ?_
    obtain ⟨r4, k5, hm⟩ := z_b1s hm
    refine z_callSi C (k_X6_in l G N x2 0 60 h_x2 (z_k 0 rfl) (z_k 60 rfl) r4 k5) zs_X6_in zl_X6_57 dX6_ring_12 [] rfl rfl rfl (ws' := [(r_o, z_o 6 [.ref r_Atext, z_i r_typed, .ref r_Atold, .ref r_Adraft, .ref r_Abegun, .ref r_As, .ref r_Apast, z_i r_known, .ref r_Aimages, z_i r_kept, .ref r_Arings, z_i r_rung, z_i r_at, .ref r_Astates, .ref r_Aheld, .ref r_Ahere, .ref r_Athere]), (r_Atext, z_a G.2.1 200 r_text), (r_Atold, z_a G.2.1 39 r_told), (r_Adraft, z_a G.2.1 39 r_draft), (r_Abegun, z_a G.2.1 73 r_begun), (r_As, z_a G.2.1 73 r_s), (r_Apast, z_a G.2.1 584 r_past), (r_Aimages, z_a G.2.1 146 r_images), (r_Arings, z_a G.2.1 6 r_rings), (r_Astates, z_a G.2.1 36 r_states), (r_Aheld, z_a G.2.1 73 r_held), (r_Ahere, z_a G.2.2.2.2 36 r_here), (r_Athere, z_a G.2.2.2.2 36 r_there)]) rfl rfl [] rfl (Nat.le_of_ble_eq_true rfl) ⟨Nat.le_of_ble_eq_true rfl, Nat.le_of_ble_eq_true rfl⟩ ⟨rfl, rfl⟩ ⟨Nat.zero_le _, Nat.zero_le _⟩ (fun hF => ?_)
    obtain ⟨hb_r4, -⟩ := hF
    refine z_if_ne (tgt := 20) C (z_n01 hb_r4) dX6_ring_15 (by decide) (fun c6 => ?_) (fun c6 => ?_)
    · have hm := z_pos c6 hm
      refine z_aload_n C dX6_ring_20 0 rfl ?_
      refine z_get C zf_X6_95 dX6_ring_21 0 rfl rfl ?_
      refine z_bipush C dX6_ring_24 (by decide) ?_
      refine z_icmp_ne (tgt := 32) C h_r_rung (z_k 6 rfl) dX6_ring_26 (by decide) (fun c7 => ?_) (fun c7 => ?_)
      · have hm := z_pos c7 hm
        refine z_aload_n C dX6_ring_32 0 rfl ?_
        refine z_get C zf_X6_31 dX6_ring_33 0 rfl rfl ?_
        refine z_aload_n C dX6_ring_36 0 rfl ?_
        refine z_get C zf_X6_95 dX6_ring_37 0 rfl rfl ?_
        refine z_bipush C dX6_ring_40 (by decide) ?_
        refine z_iload_n C dX6_ring_42 1 rfl ?_
        obtain ⟨c8, hm⟩ := z_chk_some hm
        refine z_imul C dX6_ring_43 ?_
        refine z_iload_n C dX6_ring_44 2 rfl ?_
        obtain ⟨c9, hm⟩ := z_chk_some hm
        refine z_iadd C dX6_ring_45 ?_
        obtain ⟨c10, hm⟩ := z_chk_some hm
        refine z_iast C dX6_ring_46 8 rfl c10 h_r_rung (ws' := [(r_o, z_o 6 [.ref r_Atext, z_i r_typed, .ref r_Atold, .ref r_Adraft, .ref r_Abegun, .ref r_As, .ref r_Apast, z_i r_known, .ref r_Aimages, z_i r_kept, .ref r_Arings, z_i r_rung, z_i r_at, .ref r_Astates, .ref r_Aheld, .ref r_Ahere, .ref r_Athere]), (r_Atext, z_a G.2.1 200 r_text), (r_Atold, z_a G.2.1 39 r_told), (r_Adraft, z_a G.2.1 39 r_draft), (r_Abegun, z_a G.2.1 73 r_begun), (r_As, z_a G.2.1 73 r_s), (r_Apast, z_a G.2.1 584 r_past), (r_Aimages, z_a G.2.1 146 r_images), (r_Arings, z_a G.2.1 6 (z_up r_rings r_rung ((100 * x1) + x2))), (r_Astates, z_a G.2.1 36 r_states), (r_Aheld, z_a G.2.1 73 r_held), (r_Ahere, z_a G.2.2.2.2 36 r_here), (r_Athere, z_a G.2.2.2.2 36 r_there)]) rfl ?_
        refine z_aload_n C dX6_ring_47 0 rfl ?_
        refine z_dup C rfl dX6_ring_48 ?_
        refine z_get C zf_X6_95 dX6_ring_49 0 rfl rfl ?_
        refine z_iconst C dX6_ring_52 ?_
        obtain ⟨c11, hm⟩ := z_chk_some hm
        refine z_iadd C dX6_ring_53 ?_
        refine z_puti C zf_X6_95 dX6_ring_54 0 rfl rfl (ws' := [(r_o, z_o 6 [.ref r_Atext, z_i r_typed, .ref r_Atold, .ref r_Adraft, .ref r_Abegun, .ref r_As, .ref r_Apast, z_i r_known, .ref r_Aimages, z_i r_kept, .ref r_Arings, z_i (r_rung + 1), z_i r_at, .ref r_Astates, .ref r_Aheld, .ref r_Ahere, .ref r_Athere]), (r_Atext, z_a G.2.1 200 r_text), (r_Atold, z_a G.2.1 39 r_told), (r_Adraft, z_a G.2.1 39 r_draft), (r_Abegun, z_a G.2.1 73 r_begun), (r_As, z_a G.2.1 73 r_s), (r_Apast, z_a G.2.1 584 r_past), (r_Aimages, z_a G.2.1 146 r_images), (r_Arings, z_a G.2.1 6 (z_up r_rings r_rung ((100 * x1) + x2))), (r_Astates, z_a G.2.1 36 r_states), (r_Aheld, z_a G.2.1 73 r_held), (r_Ahere, z_a G.2.2.2.2 36 r_here), (r_Athere, z_a G.2.2.2.2 36 r_there)]) rfl ?_
        refine z_aload_n C dX6_ring_57 0 rfl ?_
        refine z_get C zf_X6_95 dX6_ring_58 0 rfl rfl ?_
        cases hm
        exact z_iret C E dX6_ring_61 ⟨rfl, rfl, c11, (z_r_up h_r_rings c9), c11, trivial⟩
      · have hm := z_neg c7 hm
        refine z_bipush C dX6_ring_29 (by decide) ?_
        cases hm
        exact z_iret C E dX6_ring_31 ⟨rfl, rfl, (z_k (-3) rfl), h_r_rings, h_r_rung, trivial⟩
    · have hm := z_neg c6 hm
      refine z_iconst C dX6_ring_18 ?_
      cases hm
      exact z_iret C E dX6_ring_19 ⟨rfl, rfl, (z_k (-1) rfl), h_r_rings, h_r_rung, trivial⟩
set_option maxRecDepth 100000 in
theorem k_X6_forget (l : Launch) (G : z_G) (N : Nat) (r_o r_Atext r_Atold r_Adraft r_Abegun r_As r_Apast r_Aimages r_Arings r_Astates r_Aheld r_Ahere r_Athere : Nat) (r_text : (Int → Int)) (r_typed : Int) (r_told : (Int → Int)) (r_draft : (Int → Int)) (r_begun : (Int → Int)) (r_s : (Int → Int)) (r_past : (Int → Int)) (r_known : Int) (r_images : (Int → Int)) (r_kept : Int) (r_rings : (Int → Int)) (r_rung : Int) (r_at : Int) (r_states : (Int → Int)) (r_held : (Int → Int)) (r_here : (Int → Int)) (r_there : (Int → Int)) (h_r_text : z_r r_text) (h_r_typed : z_n r_typed) (h_r_told : z_r r_told) (h_r_draft : z_r r_draft) (h_r_begun : z_r r_begun) (h_r_s : z_r r_s) (h_r_past : z_r r_past) (h_r_known : z_n r_known) (h_r_images : z_r r_images) (h_r_kept : z_n r_kept) (h_r_rings : z_r r_rings) (h_r_rung : z_n r_rung) (h_r_at : z_n r_at) (h_r_states : z_r r_states) (h_r_held : z_r r_held) (h_r_here : z_r r_here) (h_r_there : z_r r_there) (rr : Int) (q_r_rung : Int) (hm : m_X6_forget N r_rung = some (rr, q_r_rung)) : z_M l G yX6_forget cX6_forget 2 (some .int) (k2_rm 0 0) [.ref r_o] ([(r_o, z_o 6 [.ref r_Atext, z_i r_typed, .ref r_Atold, .ref r_Adraft, .ref r_Abegun, .ref r_As, .ref r_Apast, z_i r_known, .ref r_Aimages, z_i r_kept, .ref r_Arings, z_i r_rung, z_i r_at, .ref r_Astates, .ref r_Aheld, .ref r_Ahere, .ref r_Athere]), (r_Atext, z_a G.2.1 200 r_text), (r_Atold, z_a G.2.1 39 r_told), (r_Adraft, z_a G.2.1 39 r_draft), (r_Abegun, z_a G.2.1 73 r_begun), (r_As, z_a G.2.1 73 r_s), (r_Apast, z_a G.2.1 584 r_past), (r_Aimages, z_a G.2.1 146 r_images), (r_Arings, z_a G.2.1 6 r_rings), (r_Astates, z_a G.2.1 36 r_states), (r_Aheld, z_a G.2.1 73 r_held), (r_Ahere, z_a G.2.2.2.2 36 r_here), (r_Athere, z_a G.2.2.2.2 36 r_there)]) 0 0 (fun v w => v = some (z_i rr) ∧ w = [(r_o, z_o 6 [.ref r_Atext, z_i r_typed, .ref r_Atold, .ref r_Adraft, .ref r_Abegun, .ref r_As, .ref r_Apast, z_i r_known, .ref r_Aimages, z_i r_kept, .ref r_Arings, z_i q_r_rung, z_i r_at, .ref r_Astates, .ref r_Aheld, .ref r_Ahere, .ref r_Athere]), (r_Atext, z_a G.2.1 200 r_text), (r_Atold, z_a G.2.1 39 r_told), (r_Adraft, z_a G.2.1 39 r_draft), (r_Abegun, z_a G.2.1 73 r_begun), (r_As, z_a G.2.1 73 r_s), (r_Apast, z_a G.2.1 584 r_past), (r_Aimages, z_a G.2.1 146 r_images), (r_Arings, z_a G.2.1 6 r_rings), (r_Astates, z_a G.2.1 36 r_states), (r_Aheld, z_a G.2.1 73 r_held), (r_Ahere, z_a G.2.2.2.2 36 r_here), (r_Athere, z_a G.2.2.2.2 36 r_there)] ∧ z_n rr ∧ z_n q_r_rung ∧ True) := by
  unfold m_X6_forget at hm
  refine z_M.intro (by decide +kernel) (Nat.le_of_ble_eq_true rfl) (L := [(0, .ref r_o)]) rfl (fun X C E => ?_)
  refine z_aload_n C dX6_forget_0 0 rfl ?_
  refine z_get C zf_X6_95 dX6_forget_1 0 rfl rfl ?_
  refine z_istore_n C dX6_forget_4 (by decide) (L' := [(1, z_i r_rung), (0, .ref r_o)]) rfl ?_
  refine z_aload_n C dX6_forget_5 1 rfl ?_
  refine z_iconst C dX6_forget_6 ?_
  refine z_puti C zf_X6_95 dX6_forget_7 0 rfl rfl (ws' := [(r_o, z_o 6 [.ref r_Atext, z_i r_typed, .ref r_Atold, .ref r_Adraft, .ref r_Abegun, .ref r_As, .ref r_Apast, z_i r_known, .ref r_Aimages, z_i r_kept, .ref r_Arings, z_i 0, z_i r_at, .ref r_Astates, .ref r_Aheld, .ref r_Ahere, .ref r_Athere]), (r_Atext, z_a G.2.1 200 r_text), (r_Atold, z_a G.2.1 39 r_told), (r_Adraft, z_a G.2.1 39 r_draft), (r_Abegun, z_a G.2.1 73 r_begun), (r_As, z_a G.2.1 73 r_s), (r_Apast, z_a G.2.1 584 r_past), (r_Aimages, z_a G.2.1 146 r_images), (r_Arings, z_a G.2.1 6 r_rings), (r_Astates, z_a G.2.1 36 r_states), (r_Aheld, z_a G.2.1 73 r_held), (r_Ahere, z_a G.2.2.2.2 36 r_here), (r_Athere, z_a G.2.2.2.2 36 r_there)]) rfl ?_
  refine z_iload_n C dX6_forget_10 0 rfl ?_
  cases hm
  exact z_iret C E dX6_forget_11 ⟨rfl, rfl, h_r_rung, (z_k 0 rfl), trivial⟩
