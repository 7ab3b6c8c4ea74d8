set_option maxRecDepth 100000 in
theorem k_X6_sends (l : Launch) (G : z_G) (N : Nat) (r_o r_Atext r_Atold r_Adraft r_Abegun r_As r_Apast r_Aimages r_Arings r_Astates r_Aheld r_Ahere r_Athere : Nat) (r_text : (Int → Int)) (r_typed : Int) (r_told : (Int → Int)) (r_draft : (Int → Int)) (r_begun : (Int → Int)) (r_s : (Int → Int)) (r_past : (Int → Int)) (r_known : Int) (r_images : (Int → Int)) (r_kept : Int) (r_rings : (Int → Int)) (r_rung : Int) (r_at : Int) (r_states : (Int → Int)) (r_held : (Int → Int)) (r_here : (Int → Int)) (r_there : (Int → Int)) (x1 : Int) (h_r_text : z_r r_text) (h_r_typed : z_n r_typed) (h_r_told : z_r r_told) (h_r_draft : z_r r_draft) (h_r_begun : z_r r_begun) (h_r_s : z_r r_s) (h_r_past : z_r r_past) (h_r_known : z_n r_known) (h_r_images : z_r r_images) (h_r_kept : z_n r_kept) (h_r_rings : z_r r_rings) (h_r_rung : z_n r_rung) (h_r_at : z_n r_at) (h_r_states : z_r r_states) (h_r_held : z_r r_held) (h_r_here : z_r r_here) (h_r_there : z_r r_there) (h_x1 : z_n x1) (rr : Int) (q_r_s : (Int → Int)) (hm : m_X6_sends N r_told r_s x1 = some (rr, q_r_s)) : z_M l G yX6_sends cX6_sends 7 (some .boolean) (k2_rm 3 68) [.ref r_o, z_i x1] ([(r_o, z_o 6 [.ref r_Atext, z_i r_typed, .ref r_Atold, .ref r_Adraft, .ref r_Abegun, .ref r_As, .ref r_Apast, z_i r_known, .ref r_Aimages, z_i r_kept, .ref r_Arings, z_i r_rung, z_i r_at, .ref r_Astates, .ref r_Aheld, .ref r_Ahere, .ref r_Athere]), (r_Atext, z_a G.2.1 200 r_text), (r_Atold, z_a G.2.1 39 r_told), (r_Adraft, z_a G.2.1 39 r_draft), (r_Abegun, z_a G.2.1 73 r_begun), (r_As, z_a G.2.1 73 r_s), (r_Apast, z_a G.2.1 584 r_past), (r_Aimages, z_a G.2.1 146 r_images), (r_Arings, z_a G.2.1 6 r_rings), (r_Astates, z_a G.2.1 36 r_states), (r_Aheld, z_a G.2.1 73 r_held), (r_Ahere, z_a G.2.2.2.2 36 r_here), (r_Athere, z_a G.2.2.2.2 36 r_there)]) 0 0 (fun v w => v = some (z_i rr) ∧ w = [(r_o, z_o 6 [.ref r_Atext, z_i r_typed, .ref r_Atold, .ref r_Adraft, .ref r_Abegun, .ref r_As, .ref r_Apast, z_i r_known, .ref r_Aimages, z_i r_kept, .ref r_Arings, z_i r_rung, z_i r_at, .ref r_Astates, .ref r_Aheld, .ref r_Ahere, .ref r_Athere]), (r_Atext, z_a G.2.1 200 r_text), (r_Atold, z_a G.2.1 39 r_told), (r_Adraft, z_a G.2.1 39 r_draft), (r_Abegun, z_a G.2.1 73 r_begun), (r_As, z_a G.2.1 73 q_r_s), (r_Apast, z_a G.2.1 584 r_past), (r_Aimages, z_a G.2.1 146 r_images), (r_Arings, z_a G.2.1 6 r_rings), (r_Astates, z_a G.2.1 36 r_states), (r_Aheld, z_a G.2.1 73 r_held), (r_Ahere, z_a G.2.2.2.2 36 r_here), (r_Athere, z_a G.2.2.2.2 36 r_there)] ∧ (rr = 0 ∨ rr = 1) ∧ z_r q_r_s ∧ True) := by
  unfold m_X6_sends at hm
  refine z_M.intro (by decide +kernel) (Nat.le_of_ble_eq_true rfl) (L := [(0, .ref r_o), (1, z_i x1)]) rfl (fun X C E => ?_)
  refine z_iconst C dX6_sends_0 ?_
  refine z_istore_n C dX6_sends_1 (by decide) (L' := [(2, z_i (-1)), (0, .ref r_o), (1, z_i x1)]) rfl ?_
  refine z_iconst C dX6_sends_2 ?_
  refine z_istore_n C dX6_sends_3 (by decide) (L' := [(3, z_i 3), (2, z_i (-1)), (0, .ref r_o), (1, z_i x1)]) rfl ?_
  obtain ⟨o2_1, hl, hm⟩ := z_b1s hm
  have JX1 : z_n o2_1 → z_J X 0 0 ([(r_o, z_o 6 [.ref r_Atext, z_i r_typed, .ref r_Atold, .ref r_Adraft, .ref r_Abegun, .ref r_As, .ref r_Apast, z_i r_known, .ref r_Aimages, z_i r_kept, .ref r_Arings, z_i r_rung, z_i r_at, .ref r_Astates, .ref r_Aheld, .ref r_Ahere, .ref r_Athere]), (r_Atext, z_a G.2.1 200 r_text), (r_Atold, z_a G.2.1 39 r_told), (r_Adraft, z_a G.2.1 39 r_draft), (r_Abegun, z_a G.2.1 73 r_begun), (r_As, z_a G.2.1 73 r_s), (r_Apast, z_a G.2.1 584 r_past), (r_Aimages, z_a G.2.1 146 r_images), (r_Arings, z_a G.2.1 6 r_rings), (r_Astates, z_a G.2.1 36 r_states), (r_Aheld, z_a G.2.1 73 r_held), (r_Ahere, z_a G.2.2.2.2 36 r_here), (r_Athere, z_a G.2.2.2.2 36 r_there)]) [(0, .ref r_o), (1, z_i x1), (2, z_i o2_1)] 115 [] := by
    intro h_o2_1
    clear hl
    refine z_iload_n C dX6_sends_115 2 rfl ?_
    obtain ⟨r_s_35, hj, hm⟩ := z_b1s hm
    have J36 : z_r r_s_35 → z_J X 0 0 ([(r_o, z_o 6 [.ref r_Atext, z_i r_typed, .ref r_Atold, .ref r_Adraft, .ref r_Abegun, .ref r_As, .ref r_Apast, z_i r_known, .ref r_Aimages, z_i r_kept, .ref r_Arings, z_i r_rung, z_i r_at, .ref r_Astates, .ref r_Aheld, .ref r_Ahere, .ref r_Athere]), (r_Atext, z_a G.2.1 200 r_text), (r_Atold, z_a G.2.1 39 r_told), (r_Adraft, z_a G.2.1 39 r_draft), (r_Abegun, z_a G.2.1 73 r_begun), (r_As, z_a G.2.1 73 r_s_35), (r_Apast, z_a G.2.1 584 r_past), (r_Aimages, z_a G.2.1 146 r_images), (r_Arings, z_a G.2.1 6 r_rings), (r_Astates, z_a G.2.1 36 r_states), (r_Aheld, z_a G.2.1 73 r_held), (r_Ahere, z_a G.2.2.2.2 36 r_here), (r_Athere, z_a G.2.2.2.2 36 r_there)]) [(2, z_i o2_1)] 125 [] := by
      intro h_r_s_35
      clear hj
      refine z_iload_n C dX6_sends_125 0 rfl ?_
      refine z_if_lt (tgt := 133) C h_o2_1 dX6_sends_126 (by decide) (fun c37 => ?_) (fun c37 => ?_)
      · have hm := z_pos c37 hm
        refine z_iconst C dX6_sends_133 ?_
        cases hm
        exact z_zret C E (Or.inl rfl) dX6_sends_134 ⟨rfl, rfl, (Or.inl rfl), h_r_s_35, trivial⟩
      · have hm := z_neg c37 hm
        refine z_iconst C dX6_sends_129 ?_
        refine z_goto (tgt := 134) C dX6_sends_130 (by decide) ?_
        cases hm
        exact z_zret C E (Or.inr rfl) dX6_sends_134 ⟨rfl, rfl, (Or.inr rfl), h_r_s_35, trivial⟩
    replace hm := hj
    clear hj
    refine z_if_lt (tgt := 125) C h_o2_1 dX6_sends_116 (by decide) (fun c32 => ?_) (fun c32 => ?_)
    · have hm := z_pos c32 hm
      refine z_sub (L' := [(2, z_i o2_1)]) [2] rfl ?_
      cases hm
      exact J36 h_r_s
    · have hm := z_neg c32 hm
      refine z_aload_n C dX6_sends_119 0 rfl ?_
      refine z_iload_n C dX6_sends_120 1 rfl ?_
      refine z_iload_n C dX6_sends_121 2 rfl ?_
      obtain ⟨r_s_33, k34, hm⟩ := z_b1s hm
      refine z_callVvd C (k_X6_drops l G N r_o r_Atext r_Atold r_Adraft r_Abegun r_As r_Apast r_Aimages r_Arings r_Astates r_Aheld r_Ahere r_Athere r_text r_typed r_told r_draft r_begun r_s r_past r_known r_images r_kept r_rings r_rung r_at r_states r_held r_here r_there x1 o2_1 h_r_text h_r_typed h_r_told h_r_draft h_r_begun h_r_s h_r_past h_r_known h_r_images h_r_kept h_r_rings h_r_rung h_r_at h_r_states h_r_held h_r_here h_r_there h_x1 h_o2_1 r_s_33 k34) zv_X6_drops zl_X6_108 dX6_sends_122 rfl 0 rfl rfl rfl [] rfl (Nat.le_of_ble_eq_true rfl) ⟨Nat.le_of_ble_eq_true rfl, Nat.le_of_ble_eq_true rfl⟩ ⟨rfl, rfl⟩ ⟨Nat.zero_le _, Nat.zero_le _⟩ (fun hF => ?_)
      obtain ⟨h_r_s_33, -⟩ := hF
      refine z_sub (L' := [(2, z_i o2_1)]) [2] rfl ?_
      cases hm
      exact J36 h_r_s_33
  clear hm
  have L1 : ∀ (n1 : Nat) (v2_1 : Int) (v3_1 : Int), z_n v2_1 → z_n v3_1 → m_X6_sends_l1 N x1 r_s r_told n1 v2_1 v3_1 = some (o2_1) → z_J X 0 0 ([(r_o, z_o 6 [.ref r_Atext, z_i r_typed, .ref r_Atold, .ref r_Adraft, .ref r_Abegun, .ref r_As, .ref r_Apast, z_i r_known, .ref r_Aimages, z_i r_kept, .ref r_Arings, z_i r_rung, z_i r_at, .ref r_Astates, .ref r_Aheld, .ref r_Ahere, .ref r_Athere]), (r_Atext, z_a G.2.1 200 r_text), (r_Atold, z_a G.2.1 39 r_told), (r_Adraft, z_a G.2.1 39 r_draft), (r_Abegun, z_a G.2.1 73 r_begun), (r_As, z_a G.2.1 73 r_s), (r_Apast, z_a G.2.1 584 r_past), (r_Aimages, z_a G.2.1 146 r_images), (r_Arings, z_a G.2.1 6 r_rings), (r_Astates, z_a G.2.1 36 r_states), (r_Aheld, z_a G.2.1 73 r_held), (r_Ahere, z_a G.2.2.2.2 36 r_here), (r_Athere, z_a G.2.2.2.2 36 r_there)]) [(0, .ref r_o), (1, z_i x1), (2, z_i v2_1), (3, z_i v3_1)] 4 [] := by
    clear hl
    intro n1
    induction n1 with
    | zero =>
      intro v2_1 v3_1 h_v2_1 h_v3_1 hm
      rw [m_X6_sends_l1] at hm
      cases hm
    | succ n1 ih1 =>
      intro v2_1 v3_1 h_v2_1 h_v3_1 hm
      rw [m_X6_sends_l1] at hm
      refine z_iload_n C dX6_sends_4 3 rfl ?_
      refine z_if_lt (tgt := 115) C h_v3_1 dX6_sends_5 (by decide) (fun c1 => ?_) (fun c1 => ?_)
      · have hm := z_pos c1 hm
        refine z_sub (L' := [(0, .ref r_o), (1, z_i x1), (2, z_i v2_1)]) [0, 1, 2] rfl ?_
        cases hm
        exact JX1 h_v2_1
      · have hm := z_neg c1 hm
        refine z_aload_n C dX6_sends_8 0 rfl ?_
        refine z_get C zf_X6_22 dX6_sends_9 0 rfl rfl ?_
        refine z_iload_n C dX6_sends_12 1 rfl ?_
        obtain ⟨c2, hm⟩ := z_chk_some hm
        refine z_iald C dX6_sends_13 5 rfl c2 h_x1 ?_
        refine z_if_le (tgt := 115) C (h_r_s _) dX6_sends_14 (by decide) (fun c3 => ?_) (fun c3 => ?_)
        · have hm := z_pos c3 hm
          refine z_sub (L' := [(0, .ref r_o), (1, z_i x1), (2, z_i v2_1)]) [0, 1, 2] rfl ?_
          cases hm
          exact JX1 h_v2_1
        · have hm := z_neg c3 hm
          refine z_aload_n C dX6_sends_17 0 rfl ?_
          refine z_iload_n C dX6_sends_18 1 rfl ?_
          refine z_iload_n C dX6_sends_19 3 rfl ?_
          obtain ⟨r4, k5, hm⟩ := z_b1s hm
          refine z_callVid C (k_X6_beside l G N r_o r_Atext r_Atold r_Adraft r_Abegun r_As r_Apast r_Aimages r_Arings r_Astates r_Aheld r_Ahere r_Athere r_text r_typed r_told r_draft r_begun r_s r_past r_known r_images r_kept r_rings r_rung r_at r_states r_held r_here r_there x1 v3_1 h_r_text h_r_typed h_r_told h_r_draft h_r_begun h_r_s h_r_past h_r_known h_r_images h_r_kept h_r_rings h_r_rung h_r_at h_r_states h_r_held h_r_here h_r_there h_x1 h_v3_1 r4 k5) zv_X6_beside zl_X6_101 dX6_sends_20 rfl 0 rfl rfl rfl [] rfl (Nat.le_of_ble_eq_true rfl) ⟨Nat.le_of_ble_eq_true rfl, Nat.le_of_ble_eq_true rfl⟩ ⟨rfl, rfl⟩ ⟨Nat.zero_le _, Nat.zero_le _⟩ (fun hF => ?_)
          obtain ⟨h_r4, -⟩ := hF
          refine z_istore C dX6_sends_23 (by decide) (L' := [(4, z_i r4), (0, .ref r_o), (1, z_i x1), (2, z_i v2_1), (3, z_i v3_1)]) rfl ?_
          refine z_iload C dX6_sends_25 0 rfl ?_
          obtain ⟨s10, hj, hm⟩ := z_b1s hm
          have J11 : z_n s10 → z_J X 0 0 ([(r_o, z_o 6 [.ref r_Atext, z_i r_typed, .ref r_Atold, .ref r_Adraft, .ref r_Abegun, .ref r_As, .ref r_Apast, z_i r_known, .ref r_Aimages, z_i r_kept, .ref r_Arings, z_i r_rung, z_i r_at, .ref r_Astates, .ref r_Aheld, .ref r_Ahere, .ref r_Athere]), (r_Atext, z_a G.2.1 200 r_text), (r_Atold, z_a G.2.1 39 r_told), (r_Adraft, z_a G.2.1 39 r_draft), (r_Abegun, z_a G.2.1 73 r_begun), (r_As, z_a G.2.1 73 r_s), (r_Apast, z_a G.2.1 584 r_past), (r_Aimages, z_a G.2.1 146 r_images), (r_Arings, z_a G.2.1 6 r_rings), (r_Astates, z_a G.2.1 36 r_states), (r_Aheld, z_a G.2.1 73 r_held), (r_Ahere, z_a G.2.2.2.2 36 r_here), (r_Athere, z_a G.2.2.2.2 36 r_there)]) [(0, .ref r_o), (1, z_i x1), (2, z_i v2_1), (3, z_i v3_1), (4, z_i r4)] 48 [z_i s10] := by
            intro h_s10
            clear hj
            refine z_istore C dX6_sends_48 (by decide) (L' := [(5, z_i s10), (0, .ref r_o), (1, z_i x1), (2, z_i v2_1), (3, z_i v3_1), (4, z_i r4)]) rfl ?_
            refine z_iload C dX6_sends_50 5 rfl ?_
            obtain ⟨s19, hj, hm⟩ := z_b1s hm
            have J20 : z_n s19 → (s19 = 0 ∨ s19 = 1) → z_J X 0 0 ([(r_o, z_o 6 [.ref r_Atext, z_i r_typed, .ref r_Atold, .ref r_Adraft, .ref r_Abegun, .ref r_As, .ref r_Apast, z_i r_known, .ref r_Aimages, z_i r_kept, .ref r_Arings, z_i r_rung, z_i r_at, .ref r_Astates, .ref r_Aheld, .ref r_Ahere, .ref r_Athere]), (r_Atext, z_a G.2.1 200 r_text), (r_Atold, z_a G.2.1 39 r_told), (r_Adraft, z_a G.2.1 39 r_draft), (r_Abegun, z_a G.2.1 73 r_begun), (r_As, z_a G.2.1 73 r_s), (r_Apast, z_a G.2.1 584 r_past), (r_Aimages, z_a G.2.1 146 r_images), (r_Arings, z_a G.2.1 6 r_rings), (r_Astates, z_a G.2.1 36 r_states), (r_Aheld, z_a G.2.1 73 r_held), (r_Ahere, z_a G.2.2.2.2 36 r_here), (r_Athere, z_a G.2.2.2.2 36 r_there)]) [(0, .ref r_o), (1, z_i x1), (2, z_i v2_1), (3, z_i v3_1), (4, z_i r4)] 77 [z_i s19] := by
              intro h_s19 hb_s19
              clear hj
              refine z_istore C dX6_sends_77 (by decide) (L' := [(6, z_i s19), (0, .ref r_o), (1, z_i x1), (2, z_i v2_1), (3, z_i v3_1), (4, z_i r4)]) rfl ?_
              refine z_iload C dX6_sends_79 0 rfl ?_
              refine z_if_eq (tgt := 107) C h_s19 dX6_sends_81 (by decide) (fun c21 => ?_) (fun c21 => ?_)
              · have hm := z_pos c21 hm
                refine z_iload_n C dX6_sends_107 3 rfl ?_
                refine z_istore_n C dX6_sends_108 (by decide) (L' := [(2, z_i v2_1), (6, z_i s19), (0, .ref r_o), (1, z_i x1), (3, z_i v3_1), (4, z_i r4)]) rfl ?_
                obtain ⟨c22, hm⟩ := z_chk_some hm
                refine z_iinc C dX6_sends_109 4 rfl (by decide) (L' := [(3, z_i (v3_1 + (-1))), (2, z_i v2_1), (6, z_i s19), (0, .ref r_o), (1, z_i x1), (4, z_i r4)]) rfl ?_
                refine z_goto (tgt := 4) C dX6_sends_112 (by decide) ?_
                refine z_sub (L' := [(0, .ref r_o), (1, z_i x1), (2, z_i v2_1), (3, z_i (v3_1 + (-1)))]) [3, 4, 1, 0] rfl ?_
                exact ih1 v2_1 (v3_1 + (-1)) h_v2_1 c22 hm
              · have hm := z_neg c21 hm
                refine z_iload_n C dX6_sends_84 3 rfl ?_
                refine z_if_lt (tgt := 102) C h_v2_1 dX6_sends_85 (by decide) (fun c23 => ?_) (fun c23 => ?_)
                · have hm := z_pos c23 hm
                  refine z_iload C dX6_sends_102 5 rfl ?_
                  refine z_goto (tgt := 108) C dX6_sends_104 (by decide) ?_
                  refine z_istore_n C dX6_sends_108 (by decide) (L' := [(2, z_i r4), (6, z_i s19), (0, .ref r_o), (1, z_i x1), (3, z_i v3_1), (4, z_i r4)]) rfl ?_
                  obtain ⟨c24, hm⟩ := z_chk_some hm
                  refine z_iinc C dX6_sends_109 4 rfl (by decide) (L' := [(3, z_i (v3_1 + (-1))), (2, z_i r4), (6, z_i s19), (0, .ref r_o), (1, z_i x1), (4, z_i r4)]) rfl ?_
                  refine z_goto (tgt := 4) C dX6_sends_112 (by decide) ?_
                  refine z_sub (L' := [(0, .ref r_o), (1, z_i x1), (2, z_i r4), (3, z_i (v3_1 + (-1)))]) [3, 4, 1, 0] rfl ?_
                  exact ih1 r4 (v3_1 + (-1)) h_r4 c24 hm
                · have hm := z_neg c23 hm
                  refine z_aload_n C dX6_sends_88 1 rfl ?_
                  refine z_iload C dX6_sends_89 5 rfl ?_
                  obtain ⟨r25, k26, hm⟩ := z_b1s hm
                  refine z_callVid C (k_X6_level l G N r_o r_Atext r_Atold r_Adraft r_Abegun r_As r_Apast r_Aimages r_Arings r_Astates r_Aheld r_Ahere r_Athere r_text r_typed r_told r_draft r_begun r_s r_past r_known r_images r_kept r_rings r_rung r_at r_states r_held r_here r_there r4 h_r_text h_r_typed h_r_told h_r_draft h_r_begun h_r_s h_r_past h_r_known h_r_images h_r_kept h_r_rings h_r_rung h_r_at h_r_states h_r_held h_r_here h_r_there h_r4 r25 k26) zv_X6_level zl_X6_105 dX6_sends_91 rfl 0 rfl rfl rfl [] rfl (Nat.le_of_ble_eq_true rfl) ⟨Nat.le_of_ble_eq_true rfl, Nat.le_of_ble_eq_true rfl⟩ ⟨rfl, rfl⟩ ⟨Nat.zero_le _, Nat.zero_le _⟩ (fun hF => ?_)
                  obtain ⟨h_r25, -⟩ := hF
                  refine z_aload_n C dX6_sends_94 1 rfl ?_
                  refine z_iload_n C dX6_sends_95 3 rfl ?_
                  obtain ⟨r27, k28, hm⟩ := z_b1s hm
                  refine z_callVid C (k_X6_level l G N r_o r_Atext r_Atold r_Adraft r_Abegun r_As r_Apast r_Aimages r_Arings r_Astates r_Aheld r_Ahere r_Athere r_text r_typed r_told r_draft r_begun r_s r_past r_known r_images r_kept r_rings r_rung r_at r_states r_held r_here r_there v2_1 h_r_text h_r_typed h_r_told h_r_draft h_r_begun h_r_s h_r_past h_r_known h_r_images h_r_kept h_r_rings h_r_rung h_r_at h_r_states h_r_held h_r_here h_r_there h_v2_1 r27 k28) zv_X6_level zl_X6_105 dX6_sends_96 rfl 0 rfl rfl rfl [z_i r25] rfl (Nat.le_of_ble_eq_true rfl) ⟨Nat.le_of_ble_eq_true rfl, Nat.le_of_ble_eq_true rfl⟩ ⟨rfl, rfl⟩ ⟨Nat.zero_le _, Nat.zero_le _⟩ (fun hF => ?_)
                  obtain ⟨h_r27, -⟩ := hF
                  refine z_icmp_gt (tgt := 107) C h_r25 h_r27 dX6_sends_99 (by decide) (fun c29 => ?_) (fun c29 => ?_)
                  · have hm := z_pos c29 hm
                    refine z_iload_n C dX6_sends_107 3 rfl ?_
                    refine z_istore_n C dX6_sends_108 (by decide) (L' := [(2, z_i v2_1), (6, z_i s19), (0, .ref r_o), (1, z_i x1), (3, z_i v3_1), (4, z_i r4)]) rfl ?_
                    obtain ⟨c30, hm⟩ := z_chk_some hm
                    refine z_iinc C dX6_sends_109 4 rfl (by decide) (L' := [(3, z_i (v3_1 + (-1))), (2, z_i v2_1), (6, z_i s19), (0, .ref r_o), (1, z_i x1), (4, z_i r4)]) rfl ?_
                    refine z_goto (tgt := 4) C dX6_sends_112 (by decide) ?_
                    refine z_sub (L' := [(0, .ref r_o), (1, z_i x1), (2, z_i v2_1), (3, z_i (v3_1 + (-1)))]) [3, 4, 1, 0] rfl ?_
                    exact ih1 v2_1 (v3_1 + (-1)) h_v2_1 c30 hm
                  · have hm := z_neg c29 hm
                    refine z_iload C dX6_sends_102 5 rfl ?_
                    refine z_goto (tgt := 108) C dX6_sends_104 (by decide) ?_
                    refine z_istore_n C dX6_sends_108 (by decide) (L' := [(2, z_i r4), (6, z_i s19), (0, .ref r_o), (1, z_i x1), (3, z_i v3_1), (4, z_i r4)]) rfl ?_
                    obtain ⟨c31, hm⟩ := z_chk_some hm
                    refine z_iinc C dX6_sends_109 4 rfl (by decide) (L' := [(3, z_i (v3_1 + (-1))), (2, z_i r4), (6, z_i s19), (0, .ref r_o), (1, z_i x1), (4, z_i r4)]) rfl ?_
                    refine z_goto (tgt := 4) C dX6_sends_112 (by decide) ?_
                    refine z_sub (L' := [(0, .ref r_o), (1, z_i x1), (2, z_i r4), (3, z_i (v3_1 + (-1)))]) [3, 4, 1, 0] rfl ?_
                    exact ih1 r4 (v3_1 + (-1)) h_r4 c31 hm
            replace hm := hj
            clear hj
            refine z_if_lt (tgt := 76) C h_r4 dX6_sends_52 (by decide) (fun c12 => ?_) (fun c12 => ?_)
            · have hm := z_pos c12 hm
              refine z_iconst C dX6_sends_76 ?_
              refine z_sub (L' := [(0, .ref r_o), (1, z_i x1), (2, z_i v2_1), (3, z_i v3_1), (4, z_i r4)]) [1, 2, 3, 4, 5] rfl ?_
              cases hm
              exact J20 (z_k 0 rfl) (Or.inl rfl)
            · have hm := z_neg c12 hm
              refine z_aload_n C dX6_sends_55 1 rfl ?_
              refine z_iload C dX6_sends_56 5 rfl ?_
              obtain ⟨r13, k14, hm⟩ := z_b1s hm
              refine z_callVid C (k_X6_level l G N r_o r_Atext r_Atold r_Adraft r_Abegun r_As r_Apast r_Aimages r_Arings r_Astates r_Aheld r_Ahere r_Athere r_text r_typed r_told r_draft r_begun r_s r_past r_known r_images r_kept r_rings r_rung r_at r_states r_held r_here r_there r4 h_r_text h_r_typed h_r_told h_r_draft h_r_begun h_r_s h_r_past h_r_known h_r_images h_r_kept h_r_rings h_r_rung h_r_at h_r_states h_r_held h_r_here h_r_there h_r4 r13 k14) zv_X6_level zl_X6_105 dX6_sends_58 rfl 0 rfl rfl rfl [] rfl (Nat.le_of_ble_eq_true rfl) ⟨Nat.le_of_ble_eq_true rfl, Nat.le_of_ble_eq_true rfl⟩ ⟨rfl, rfl⟩ ⟨Nat.zero_le _, Nat.zero_le _⟩ (fun hF => ?_)
              obtain ⟨h_r13, -⟩ := hF
              refine z_iload C dX6_sends_61 0 rfl ?_
              obtain ⟨c15, hm⟩ := z_chk_some hm
              refine z_iadd C dX6_sends_63 ?_
              refine z_aload_n C dX6_sends_64 1 rfl ?_
              refine z_iload_n C dX6_sends_65 2 rfl ?_
              obtain ⟨r16, k17, hm⟩ := z_b1s hm
              refine z_callVid C (k_X6_level l G N r_o r_Atext r_Atold r_Adraft r_Abegun r_As r_Apast r_Aimages r_Arings r_Astates r_Aheld r_Ahere r_Athere r_text r_typed r_told r_draft r_begun r_s r_past r_known r_images r_kept r_rings r_rung r_at r_states r_held r_here r_there x1 h_r_text h_r_typed h_r_told h_r_draft h_r_begun h_r_s h_r_past h_r_known h_r_images h_r_kept h_r_rings h_r_rung h_r_at h_r_states h_r_held h_r_here h_r_there h_x1 r16 k17) zv_X6_level zl_X6_105 dX6_sends_66 rfl 0 rfl rfl rfl [z_i (r13 + s10)] rfl (Nat.le_of_ble_eq_true rfl) ⟨Nat.le_of_ble_eq_true rfl, Nat.le_of_ble_eq_true rfl⟩ ⟨rfl, rfl⟩ ⟨Nat.zero_le _, Nat.zero_le _⟩ (fun hF => ?_)
              obtain ⟨h_r16, -⟩ := hF
              refine z_icmp_gt (tgt := 76) C c15 h_r16 dX6_sends_69 (by decide) (fun c18 => ?_) (fun c18 => ?_)
              · have hm := z_pos c18 hm
                refine z_iconst C dX6_sends_76 ?_
                refine z_sub (L' := [(0, .ref r_o), (1, z_i x1), (2, z_i v2_1), (3, z_i v3_1), (4, z_i r4)]) [1, 2, 3, 4, 5] rfl ?_
                cases hm
                exact J20 (z_k 0 rfl) (Or.inl rfl)
              · have hm := z_neg c18 hm
                refine z_iconst C dX6_sends_72 ?_
                refine z_goto (tgt := 77) C dX6_sends_73 (by decide) ?_
                refine z_sub (L' := [(0, .ref r_o), (1, z_i x1), (2, z_i v2_1), (3, z_i v3_1), (4, z_i r4)]) [1, 2, 3, 4, 5] rfl ?_
                cases hm
                exact J20 (z_k 1 rfl) (Or.inr rfl)
          replace hm := hj
          clear hj
          refine z_if_lt (tgt := 43) C h_r4 dX6_sends_27 (by decide) (fun c6 => ?_) (fun c6 => ?_)
          · have hm := z_pos c6 hm
            refine z_iconst C dX6_sends_43 ?_
            refine z_goto (tgt := 48) C dX6_sends_44 (by decide) ?_
            refine z_sub (L' := [(0, .ref r_o), (1, z_i x1), (2, z_i v2_1), (3, z_i v3_1), (4, z_i r4)]) [1, 2, 3, 4, 0] rfl ?_
            cases hm
            exact J11 (z_k 1 rfl)
          · have hm := z_neg c6 hm
            refine z_aload_n C dX6_sends_30 1 rfl ?_
            refine z_get C zf_X6_13 dX6_sends_31 0 rfl rfl ?_
            refine z_iconst C dX6_sends_34 ?_
            refine z_iload C dX6_sends_35 0 rfl ?_
            obtain ⟨c7, hm⟩ := z_chk_some hm
            refine z_iadd C dX6_sends_37 ?_
            obtain ⟨c8, hm⟩ := z_chk_some hm
            refine z_iald C dX6_sends_38 2 rfl c8 c7 ?_
            refine z_iconst C dX6_sends_39 ?_
            refine z_icmp_ne (tgt := 47) C (h_r_told _) (z_k 2 rfl) dX6_sends_40 (by decide) (fun c9 => ?_) (fun c9 => ?_)
            · have hm := z_pos c9 hm
              refine z_iconst C dX6_sends_47 ?_
              refine z_sub (L' := [(0, .ref r_o), (1, z_i x1), (2, z_i v2_1), (3, z_i v3_1), (4, z_i r4)]) [1, 2, 3, 4, 0] rfl ?_
              cases hm
              exact J11 (z_k 2 rfl)
            · have hm := z_neg c9 hm
              refine z_iconst C dX6_sends_43 ?_
              refine z_goto (tgt := 48) C dX6_sends_44 (by decide) ?_
              refine z_sub (L' := [(0, .ref r_o), (1, z_i x1), (2, z_i v2_1), (3, z_i v3_1), (4, z_i r4)]) [1, 2, 3, 4, 0] rfl ?_
              cases hm
              exact J11 (z_k 1 rfl)
  refine z_sub (L' := [(0, .ref r_o), (1, z_i x1), (2, z_i (-1)), (3, z_i 3)]) [2, 3, 1, 0] rfl ?_
  exact L1 N (-1) 3 (z_k (-1) rfl) (z_k 3 rfl) hl
set_option maxRecDepth 100000 in
theorem k_X6_flows (l : Launch) (G : z_G) (N : Nat) (r_o r_Atext r_Atold r_Adraft r_Abegun r_As r_Apast r_Aimages r_Arings r_Astates r_Aheld r_Ahere r_Athere : Nat) (r_text : (Int → Int)) (r_typed : Int) (r_told : (Int → Int)) (r_draft : (Int → Int)) (r_begun : (Int → Int)) (r_s : (Int → Int)) (r_past : (Int → Int)) (r_known : Int) (r_images : (Int → Int)) (r_kept : Int) (r_rings : (Int → Int)) (r_rung : Int) (r_at : Int) (r_states : (Int → Int)) (r_held : (Int → Int)) (r_here : (Int → Int)) (r_there : (Int → Int)) (h_r_text : z_r r_text) (h_r_typed : z_n r_typed) (h_r_told : z_r r_told) (h_r_draft : z_r r_draft) (h_r_begun : z_r r_begun) (h_r_s : z_r r_s) (h_r_past : z_r r_past) (h_r_known : z_n r_known) (h_r_images : z_r r_images) (h_r_kept : z_n r_kept) (h_r_rings : z_r r_rings) (h_r_rung : z_n r_rung) (h_r_at : z_n r_at) (h_r_states : z_r r_states) (h_r_held : z_r r_held) (h_r_here : z_r r_here) (h_r_there : z_r r_there) (q_r_s : (Int → Int)) (hm : m_X6_flows N r_told r_s = some (q_r_s)) : z_M l G yX6_flows cX6_flows 4 none (k2_rm 4 94) [.ref r_o] ([(r_o, z_o 6 [.ref r_Atext, z_i r_typed, .ref r_Atold, .ref r_Adraft, .ref r_Abegun, .ref r_As, .ref r_Apast, z_i r_known, .ref r_Aimages, z_i r_kept, .ref r_Arings, z_i r_rung, z_i r_at, .ref r_Astates, .ref r_Aheld, .ref r_Ahere, .ref r_Athere]), (r_Atext, z_a G.2.1 200 r_text), (r_Atold, z_a G.2.1 39 r_told), (r_Adraft, z_a G.2.1 39 r_draft), (r_Abegun, z_a G.2.1 73 r_begun), (r_As, z_a G.2.1 73 r_s), (r_Apast, z_a G.2.1 584 r_past), (r_Aimages, z_a G.2.1 146 r_images), (r_Arings, z_a G.2.1 6 r_rings), (r_Astates, z_a G.2.1 36 r_states), (r_Aheld, z_a G.2.1 73 r_held), (r_Ahere, z_a G.2.2.2.2 36 r_here), (r_Athere, z_a G.2.2.2.2 36 r_there)]) 0 0 (fun v w => v = none ∧ w = [(r_o, z_o 6 [.ref r_Atext, z_i r_typed, .ref r_Atold, .ref r_Adraft, .ref r_Abegun, .ref r_As, .ref r_Apast, z_i r_known, .ref r_Aimages, z_i r_kept, .ref r_Arings, z_i r_rung, z_i r_at, .ref r_Astates, .ref r_Aheld, .ref r_Ahere, .ref r_Athere]), (r_Atext, z_a G.2.1 200 r_text), (r_Atold, z_a G.2.1 39 r_told), (r_Adraft, z_a G.2.1 39 r_draft), (r_Abegun, z_a G.2.1 73 r_begun), (r_As, z_a G.2.1 73 q_r_s), (r_Apast, z_a G.2.1 584 r_past), (r_Aimages, z_a G.2.1 146 r_images), (r_Arings, z_a G.2.1 6 r_rings), (r_Astates, z_a G.2.1 36 r_states), (r_Aheld, z_a G.2.1 73 r_held), (r_Ahere, z_a G.2.2.2.2 36 r_here), (r_Athere, z_a G.2.2.2.2 36 r_there)] ∧ z_r q_r_s ∧ True) := by
  unfold m_X6_flows at hm
  refine z_M.intro (by decide +kernel) (Nat.le_of_ble_eq_true rfl) (L := [(0, .ref r_o)]) rfl (fun X C E => ?_)
  refine z_iconst C dX6_flows_0 ?_
  refine z_istore_n C dX6_flows_1 (by decide) (L' := [(1, z_i 1), (0, .ref r_o)]) rfl ?_
  obtain ⟨o_r_s_1, hl, hm⟩ := z_b1s hm
  have JX1 : z_r o_r_s_1 → z_J X 0 0 ([(r_o, z_o 6 [.ref r_Atext, z_i r_typed, .ref r_Atold, .ref r_Adraft, .ref r_Abegun, .ref r_As, .ref r_Apast, z_i r_known, .ref r_Aimages, z_i r_kept, .ref r_Arings, z_i r_rung, z_i r_at, .ref r_Astates, .ref r_Aheld, .ref r_Ahere, .ref r_Athere]), (r_Atext, z_a G.2.1 200 r_text), (r_Atold, z_a G.2.1 39 r_told), (r_Adraft, z_a G.2.1 39 r_draft), (r_Abegun, z_a G.2.1 73 r_begun), (r_As, z_a G.2.1 73 o_r_s_1), (r_Apast, z_a G.2.1 584 r_past), (r_Aimages, z_a G.2.1 146 r_images), (r_Arings, z_a G.2.1 6 r_rings), (r_Astates, z_a G.2.1 36 r_states), (r_Aheld, z_a G.2.1 73 r_held), (r_Ahere, z_a G.2.2.2.2 36 r_here), (r_Athere, z_a G.2.2.2.2 36 r_there)]) [] 47 [] := by
    intro h_o_r_s_1
    clear hl
    cases hm
    exact z_vret C E dX6_flows_47 ⟨rfl, rfl, h_o_r_s_1, trivial⟩
  clear hm
  have L1 : ∀ (n1 : Nat) (v1_1 : Int) (r_s_1 : (Int → Int)), z_n v1_1 → z_r r_s_1 → m_X6_flows_l1 N r_told n1 v1_1 r_s_1 = some (o_r_s_1) → z_J X 0 0 ([(r_o, z_o 6 [.ref r_Atext, z_i r_typed, .ref r_Atold, .ref r_Adraft, .ref r_Abegun, .ref r_As, .ref r_Apast, z_i r_known, .ref r_Aimages, z_i r_kept, .ref r_Arings, z_i r_rung, z_i r_at, .ref r_Astates, .ref r_Aheld, .ref r_Ahere, .ref r_Athere]), (r_Atext, z_a G.2.1 200 r_text), (r_Atold, z_a G.2.1 39 r_told), (r_Adraft, z_a G.2.1 39 r_draft), (r_Abegun, z_a G.2.1 73 r_begun), (r_As, z_a G.2.1 73 r_s_1), (r_Apast, z_a G.2.1 584 r_past), (r_Aimages, z_a G.2.1 146 r_images), (r_Arings, z_a G.2.1 6 r_rings), (r_Astates, z_a G.2.1 36 r_states), (r_Aheld, z_a G.2.1 73 r_held), (r_Ahere, z_a G.2.2.2.2 36 r_here), (r_Athere, z_a G.2.2.2.2 36 r_there)]) [(0, .ref r_o), (1, z_i v1_1)] 2 [] := by
    clear hl
    intro n1
    induction n1 with
    | zero =>
      intro v1_1 r_s_1 h_v1_1 h_r_s_1 hm
      rw [m_X6_flows_l1] at hm
      cases hm
    | succ n1 ih1 =>
      intro v1_1 r_s_1 h_v1_1 h_r_s_1 hm
      rw [m_X6_flows_l1] at hm
      refine z_iload_n C dX6_flows_2 1 rfl ?_
      refine z_if_eq (tgt := 47) C h_v1_1 dX6_flows_3 (by decide) (fun c1 => ?_) (fun c1 => ?_)
      · have hm := z_pos c1 hm
        refine z_sub (L' := []) [] rfl ?_
        cases hm
        exact JX1 h_r_s_1
      · have hm := z_neg c1 hm
        refine z_iconst C dX6_flows_6 ?_
        refine z_istore_n C dX6_flows_7 (by decide) (L' := [(1, z_i 0), (0, .ref r_o)]) rfl ?_
        refine z_iconst C dX6_flows_8 ?_
        refine z_istore_n C dX6_flows_9 (by decide) (L' := [(2, z_i 0), (1, z_i 0), (0, .ref r_o)]) rfl ?_
        obtain ⟨o1_2, o_r_s_2, hl, hm⟩ := z_b2s hm
        have JX2 : z_n o1_2 → z_r o_r_s_2 → z_J X 0 0 ([(r_o, z_o 6 [.ref r_Atext, z_i r_typed, .ref r_Atold, .ref r_Adraft, .ref r_Abegun, .ref r_As, .ref r_Apast, z_i r_known, .ref r_Aimages, z_i r_kept, .ref r_Arings, z_i r_rung, z_i r_at, .ref r_Astates, .ref r_Aheld, .ref r_Ahere, .ref r_Athere]), (r_Atext, z_a G.2.1 200 r_text), (r_Atold, z_a G.2.1 39 r_told), (r_Adraft, z_a G.2.1 39 r_draft), (r_Abegun, z_a G.2.1 73 r_begun), (r_As, z_a G.2.1 73 o_r_s_2), (r_Apast, z_a G.2.1 584 r_past), (r_Aimages, z_a G.2.1 146 r_images), (r_Arings, z_a G.2.1 6 r_rings), (r_Astates, z_a G.2.1 36 r_states), (r_Aheld, z_a G.2.1 73 r_held), (r_Ahere, z_a G.2.2.2.2 36 r_here), (r_Athere, z_a G.2.2.2.2 36 r_there)]) [(0, .ref r_o), (1, z_i o1_2)] 44 [] := by
          intro h_o1_2 h_o_r_s_2
          clear hl
          refine z_goto (tgt := 2) C dX6_flows_44 (by decide) ?_
          exact ih1 o1_2 o_r_s_2 h_o1_2 h_o_r_s_2 hm
        clear hm
        have L2 : ∀ (n2 : Nat) (v1_2 : Int) (v2_2 : Int) (r_s_2 : (Int → Int)), z_n v1_2 → z_n v2_2 → z_r r_s_2 → m_X6_flows_l2 N r_told n2 v1_2 v2_2 r_s_2 = some (o1_2, o_r_s_2) → z_J X 0 0 ([(r_o, z_o 6 [.ref r_Atext, z_i r_typed, .ref r_Atold, .ref r_Adraft, .ref r_Abegun, .ref r_As, .ref r_Apast, z_i r_known, .ref r_Aimages, z_i r_kept, .ref r_Arings, z_i r_rung, z_i r_at, .ref r_Astates, .ref r_Aheld, .ref r_Ahere, .ref r_Athere]), (r_Atext, z_a G.2.1 200 r_text), (r_Atold, z_a G.2.1 39 r_told), (r_Adraft, z_a G.2.1 39 r_draft), (r_Abegun, z_a G.2.1 73 r_begun), (r_As, z_a G.2.1 73 r_s_2), (r_Apast, z_a G.2.1 584 r_past), (r_Aimages, z_a G.2.1 146 r_images), (r_Arings, z_a G.2.1 6 r_rings), (r_Astates, z_a G.2.1 36 r_states), (r_Aheld, z_a G.2.1 73 r_held), (r_Ahere, z_a G.2.2.2.2 36 r_here), (r_Athere, z_a G.2.2.2.2 36 r_there)]) [(0, .ref r_o), (1, z_i v1_2), (2, z_i v2_2)] 10 [] := by
          clear hl
          intro n2
          induction n2 with
          | zero =>
            intro v1_2 v2_2 r_s_2 h_v1_2 h_v2_2 h_r_s_2 hm
            rw [m_X6_flows_l2] at hm
            cases hm
          | succ n2 ih2 =>
            intro v1_2 v2_2 r_s_2 h_v1_2 h_v2_2 h_r_s_2 hm
            rw [m_X6_flows_l2] at hm
            refine z_iload_n C dX6_flows_10 2 rfl ?_
            refine z_aload_n C dX6_flows_11 0 rfl ?_
            obtain ⟨r2, k3, hm⟩ := z_b1s hm
            refine z_callVid C (k_X6_cells l G N r_o r_Atext r_Atold r_Adraft r_Abegun r_As r_Apast r_Aimages r_Arings r_Astates r_Aheld r_Ahere r_Athere r_text r_typed r_told r_draft r_begun r_s_2 r_past r_known r_images r_kept r_rings r_rung r_at r_states r_held r_here r_there h_r_text h_r_typed h_r_told h_r_draft h_r_begun h_r_s_2 h_r_past h_r_known h_r_images h_r_kept h_r_rings h_r_rung h_r_at h_r_states h_r_held h_r_here h_r_there r2 k3) zv_X6_cells zl_X6_53 dX6_flows_12 rfl 0 rfl rfl rfl [z_i v2_2] rfl (Nat.le_of_ble_eq_true rfl) ⟨Nat.le_of_ble_eq_true rfl, Nat.le_of_ble_eq_true rfl⟩ ⟨rfl, rfl⟩ ⟨Nat.zero_le _, Nat.zero_le _⟩ (fun hF => ?_)
            obtain ⟨h_r2, -⟩ := hF
            refine z_icmp_ge (tgt := 44) C h_v2_2 h_r2 dX6_flows_15 (by decide) (fun c4 => ?_) (fun c4 => ?_)
            · have hm := z_pos c4 hm
              refine z_sub (L' := [(0, .ref r_o), (1, z_i v1_2)]) [0, 1] rfl ?_
              cases hm
              exact JX2 h_v1_2 h_r_s_2
            · have hm := z_neg c4 hm
              refine z_aload_n C dX6_flows_18 0 rfl ?_
              refine z_iload_n C dX6_flows_19 2 rfl ?_
              obtain ⟨r5, r_s_6, k7, hm⟩ := z_b2s hm
              refine z_callVid C (k_X6_sends l G N r_o r_Atext r_Atold r_Adraft r_Abegun r_As r_Apast r_Aimages r_Arings r_Astates r_Aheld r_Ahere r_Athere r_text r_typed r_told r_draft r_begun r_s_2 r_past r_known r_images r_kept r_rings r_rung r_at r_states r_held r_here r_there v2_2 h_r_text h_r_typed h_r_told h_r_draft h_r_begun h_r_s_2 h_r_past h_r_known h_r_images h_r_kept h_r_rings h_r_rung h_r_at h_r_states h_r_held h_r_here h_r_there h_v2_2 r5 r_s_6 k7) zv_X6_sends zl_X6_112 dX6_flows_20 rfl 0 rfl rfl rfl [] rfl (Nat.le_of_ble_eq_true rfl) ⟨Nat.le_of_ble_eq_true rfl, Nat.le_of_ble_eq_true rfl⟩ ⟨rfl, rfl⟩ ⟨Nat.zero_le _, Nat.zero_le _⟩ (fun hF => ?_)
              obtain ⟨hb_r5, h_r_s_6, -⟩ := hF
              refine z_istore_n C dX6_flows_23 (by decide) (L' := [(3, z_i r5), (0, .ref r_o), (1, z_i v1_2), (2, z_i v2_2)]) rfl ?_
              refine z_iload_n C dX6_flows_24 2 rfl ?_
              refine z_if_ne (tgt := 32) C h_v1_2 dX6_flows_25 (by decide) (fun c8 => ?_) (fun c8 => ?_)
              · have hm := z_pos c8 hm
                refine z_iconst C dX6_flows_32 ?_
                refine z_goto (tgt := 37) C dX6_flows_33 (by decide) ?_
                refine z_istore_n C dX6_flows_37 (by decide) (L' := [(1, z_i 1), (3, z_i r5), (0, .ref r_o), (2, z_i v2_2)]) rfl ?_
                obtain ⟨c9, hm⟩ := z_chk_some hm
                refine z_iinc C dX6_flows_38 3 rfl (by decide) (L' := [(2, z_i (v2_2 + 1)), (1, z_i 1), (3, z_i r5), (0, .ref r_o)]) rfl ?_
                refine z_goto (tgt := 10) C dX6_flows_41 (by decide) ?_
                refine z_sub (L' := [(0, .ref r_o), (1, z_i 1), (2, z_i (v2_2 + 1))]) [3, 1, 0] rfl ?_
                exact ih2 1 (v2_2 + 1) r_s_6 (z_k 1 rfl) c9 h_r_s_6 hm
              · have hm := z_neg c8 hm
                refine z_iload_n C dX6_flows_28 0 rfl ?_
                refine z_if_eq (tgt := 36) C (z_n01 hb_r5) dX6_flows_29 (by decide) (fun c10 => ?_) (fun c10 => ?_)
                · have hm := z_pos c10 hm
                  refine z_iconst C dX6_flows_36 ?_
                  refine z_istore_n C dX6_flows_37 (by decide) (L' := [(1, z_i 0), (3, z_i r5), (0, .ref r_o), (2, z_i v2_2)]) rfl ?_
                  obtain ⟨c11, hm⟩ := z_chk_some hm
                  refine z_iinc C dX6_flows_38 3 rfl (by decide) (L' := [(2, z_i (v2_2 + 1)), (1, z_i 0), (3, z_i r5), (0, .ref r_o)]) rfl ?_
                  refine z_goto (tgt := 10) C dX6_flows_41 (by decide) ?_
                  refine z_sub (L' := [(0, .ref r_o), (1, z_i 0), (2, z_i (v2_2 + 1))]) [3, 1, 0] rfl ?_
                  exact ih2 0 (v2_2 + 1) r_s_6 (z_k 0 rfl) c11 h_r_s_6 hm
                · have hm := z_neg c10 hm
                  refine z_iconst C dX6_flows_32 ?_
                  refine z_goto (tgt := 37) C dX6_flows_33 (by decide) ?_
                  refine z_istore_n C dX6_flows_37 (by decide) (L' := [(1, z_i 1), (3, z_i r5), (0, .ref r_o), (2, z_i v2_2)]) rfl ?_
                  obtain ⟨c12, hm⟩ := z_chk_some hm
                  refine z_iinc C dX6_flows_38 3 rfl (by decide) (L' := [(2, z_i (v2_2 + 1)), (1, z_i 1), (3, z_i r5), (0, .ref r_o)]) rfl ?_
                  refine z_goto (tgt := 10) C dX6_flows_41 (by decide) ?_
                  refine z_sub (L' := [(0, .ref r_o), (1, z_i 1), (2, z_i (v2_2 + 1))]) [3, 1, 0] rfl ?_
                  exact ih2 1 (v2_2 + 1) r_s_6 (z_k 1 rfl) c12 h_r_s_6 hm
        refine z_sub (L' := [(0, .ref r_o), (1, z_i 0), (2, z_i 0)]) [2, 1, 0] rfl ?_
        exact L2 N 0 0 r_s_1 (z_k 0 rfl) (z_k 0 rfl) h_r_s_1 hl
  refine z_sub (L' := [(0, .ref r_o), (1, z_i 1)]) [1, 0] rfl ?_
  exact L1 N 1 r_s (z_k 1 rfl) h_r_s hl
set_option maxRecDepth 100000 in
theorem k_X6_lays (l : Launch) (G : z_G) (N : Nat) (r_o r_Atext r_Atold r_Adraft r_Abegun r_As r_Apast r_Aimages r_Arings r_Astates r_Aheld r_Ahere r_Athere : Nat) (r_text : (Int → Int)) (r_typed : Int) (r_told : (Int → Int)) (r_draft : (Int → Int)) (r_begun : (Int → Int)) (r_s : (Int → Int)) (r_past : (Int → Int)) (r_known : Int) (r_images : (Int → Int)) (r_kept : Int) (r_rings : (Int → Int)) (r_rung : Int) (r_at : Int) (r_states : (Int → Int)) (r_held : (Int → Int)) (r_here : (Int → Int)) (r_there : (Int → Int)) (h_r_text : z_r r_text) (h_r_typed : z_n r_typed) (h_r_told : z_r r_told) (h_r_draft : z_r r_draft) (h_r_begun : z_r r_begun) (h_r_s : z_r r_s) (h_r_past : z_r r_past) (h_r_known : z_n r_known) (h_r_images : z_r r_images) (h_r_kept : z_n r_kept) (h_r_rings : z_r r_rings) (h_r_rung : z_n r_rung) (h_r_at : z_n r_at) (h_r_states : z_r r_states) (h_r_held : z_r r_held) (h_r_here : z_r r_here) (h_r_there : z_r r_there) (q_r_told : (Int → Int)) (q_r_s : (Int → Int)) (q_r_known : Int) (q_r_kept : Int) (q_r_rung : Int) (hm : m_X6_lays N r_told r_draft r_begun r_s r_known r_kept r_rung = some (q_r_told, q_r_s, q_r_known, q_r_kept, q_r_rung)) : z_M l G yX6_lays cX6_lays 2 none (k2_rm 5 117) [.ref r_o] ([(r_o, z_o 6 [.ref r_Atext, z_i r_typed, .ref r_Atold, .ref r_Adraft, .ref r_Abegun, .ref r_As, .ref r_Apast, z_i r_known, .ref r_Aimages, z_i r_kept, .ref r_Arings, z_i r_rung, z_i r_at, .ref r_Astates, .ref r_Aheld, .ref r_Ahere, .ref r_Athere]), (r_Atext, z_a G.2.1 200 r_text), (r_Atold, z_a G.2.1 39 r_told), (r_Adraft, z_a G.2.1 39 r_draft), (r_Abegun, z_a G.2.1 73 r_begun), (r_As, z_a G.2.1 73 r_s), (r_Apast, z_a G.2.1 584 r_past), (r_Aimages, z_a G.2.1 146 r_images), (r_Arings, z_a G.2.1 6 r_rings), (r_Astates, z_a G.2.1 36 r_states), (r_Aheld, z_a G.2.1 73 r_held), (r_Ahere, z_a G.2.2.2.2 36 r_here), (r_Athere, z_a G.2.2.2.2 36 r_there)]) 0 0 (fun v w => v = none ∧ w = [(r_o, z_o 6 [.ref r_Atext, z_i r_typed, .ref r_Atold, .ref r_Adraft, .ref r_Abegun, .ref r_As, .ref r_Apast, z_i q_r_known, .ref r_Aimages, z_i q_r_kept, .ref r_Arings, z_i q_r_rung, z_i r_at, .ref r_Astates, .ref r_Aheld, .ref r_Ahere, .ref r_Athere]), (r_Atext, z_a G.2.1 200 r_text), (r_Atold, z_a G.2.1 39 q_r_told), (r_Adraft, z_a G.2.1 39 r_draft), (r_Abegun, z_a G.2.1 73 r_begun), (r_As, z_a G.2.1 73 q_r_s), (r_Apast, z_a G.2.1 584 r_past), (r_Aimages, z_a G.2.1 146 r_images), (r_Arings, z_a G.2.1 6 r_rings), (r_Astates, z_a G.2.1 36 r_states), (r_Aheld, z_a G.2.1 73 r_held), (r_Ahere, z_a G.2.2.2.2 36 r_here), (r_Athere, z_a G.2.2.2.2 36 r_there)] ∧ z_r q_r_told ∧ z_r q_r_s ∧ z_n q_r_known ∧ z_n q_r_kept ∧ z_n q_r_rung ∧ True) := by
  unfold m_X6_lays at hm
  refine z_M.intro (by decide +kernel) (Nat.le_of_ble_eq_true rfl) (L := [(0, .ref r_o)]) rfl (fun X C E => ?_)
  refine z_iconst C dX6_lays_0 ?_
  refine z_istore_n C dX6_lays_1 (by decide) (L' := [(1, z_i 0), (0, .ref r_o)]) rfl ?_
  obtain ⟨o_r_told_1, hl, hm⟩ := z_b1s hm
  have JX1 : z_r o_r_told_1 → z_J X 0 0 ([(r_o, z_o 6 [.ref r_Atext, z_i r_typed, .ref r_Atold, .ref r_Adraft, .ref r_Abegun, .ref r_As, .ref r_Apast, z_i r_known, .ref r_Aimages, z_i r_kept, .ref r_Arings, z_i r_rung, z_i r_at, .ref r_Astates, .ref r_Aheld, .ref r_Ahere, .ref r_Athere]), (r_Atext, z_a G.2.1 200 r_text), (r_Atold, z_a G.2.1 39 o_r_told_1), (r_Adraft, z_a G.2.1 39 r_draft), (r_Abegun, z_a G.2.1 73 r_begun), (r_As, z_a G.2.1 73 r_s), (r_Apast, z_a G.2.1 584 r_past), (r_Aimages, z_a G.2.1 146 r_images), (r_Arings, z_a G.2.1 6 r_rings), (r_Astates, z_a G.2.1 36 r_states), (r_Aheld, z_a G.2.1 73 r_held), (r_Ahere, z_a G.2.2.2.2 36 r_here), (r_Athere, z_a G.2.2.2.2 36 r_there)]) [(0, .ref r_o)] 26 [] := by
    intro h_o_r_told_1
    clear hl
    refine z_iconst C dX6_lays_26 ?_
    refine z_istore_n C dX6_lays_27 (by decide) (L' := [(1, z_i 0), (0, .ref r_o)]) rfl ?_
    obtain ⟨o_r_s_2, hl, hm⟩ := z_b1s hm
    have JX2 : z_r o_r_s_2 → z_J X 0 0 ([(r_o, z_o 6 [.ref r_Atext, z_i r_typed, .ref r_Atold, .ref r_Adraft, .ref r_Abegun, .ref r_As, .ref r_Apast, z_i r_known, .ref r_Aimages, z_i r_kept, .ref r_Arings, z_i r_rung, z_i r_at, .ref r_Astates, .ref r_Aheld, .ref r_Ahere, .ref r_Athere]), (r_Atext, z_a G.2.1 200 r_text), (r_Atold, z_a G.2.1 39 o_r_told_1), (r_Adraft, z_a G.2.1 39 r_draft), (r_Abegun, z_a G.2.1 73 r_begun), (r_As, z_a G.2.1 73 o_r_s_2), (r_Apast, z_a G.2.1 584 r_past), (r_Aimages, z_a G.2.1 146 r_images), (r_Arings, z_a G.2.1 6 r_rings), (r_Astates, z_a G.2.1 36 r_states), (r_Aheld, z_a G.2.1 73 r_held), (r_Ahere, z_a G.2.2.2.2 36 r_here), (r_Athere, z_a G.2.2.2.2 36 r_there)]) [(0, .ref r_o)] 52 [] := by
      intro h_o_r_s_2
      clear hl
      refine z_iconst C dX6_lays_52 ?_
      refine z_istore_n C dX6_lays_53 (by decide) (L' := [(1, z_i 0), (0, .ref r_o)]) rfl ?_
      obtain ⟨o_r_s_3, hl, hm⟩ := z_b1s hm
      have JX3 : z_r o_r_s_3 → z_J X 0 0 ([(r_o, z_o 6 [.ref r_Atext, z_i r_typed, .ref r_Atold, .ref r_Adraft, .ref r_Abegun, .ref r_As, .ref r_Apast, z_i r_known, .ref r_Aimages, z_i r_kept, .ref r_Arings, z_i r_rung, z_i r_at, .ref r_Astates, .ref r_Aheld, .ref r_Ahere, .ref r_Athere]), (r_Atext, z_a G.2.1 200 r_text), (r_Atold, z_a G.2.1 39 o_r_told_1), (r_Adraft, z_a G.2.1 39 r_draft), (r_Abegun, z_a G.2.1 73 r_begun), (r_As, z_a G.2.1 73 o_r_s_3), (r_Apast, z_a G.2.1 584 r_past), (r_Aimages, z_a G.2.1 146 r_images), (r_Arings, z_a G.2.1 6 r_rings), (r_Astates, z_a G.2.1 36 r_states), (r_Aheld, z_a G.2.1 73 r_held), (r_Ahere, z_a G.2.2.2.2 36 r_here), (r_Athere, z_a G.2.2.2.2 36 r_there)]) [(0, .ref r_o)] 106 [] := by
        intro h_o_r_s_3
        clear hl
        refine z_aload_n C dX6_lays_106 0 rfl ?_
        obtain ⟨r_s_23, k24, hm⟩ := z_b1s hm
        refine z_callVvd C (k_X6_flows l G N r_o r_Atext r_Atold r_Adraft r_Abegun r_As r_Apast r_Aimages r_Arings r_Astates r_Aheld r_Ahere r_Athere r_text r_typed o_r_told_1 r_draft r_begun o_r_s_3 r_past r_known r_images r_kept r_rings r_rung r_at r_states r_held r_here r_there h_r_text h_r_typed h_o_r_told_1 h_r_draft h_r_begun h_o_r_s_3 h_r_past h_r_known h_r_images h_r_kept h_r_rings h_r_rung h_r_at h_r_states h_r_held h_r_here h_r_there r_s_23 k24) zv_X6_flows zl_X6_86 dX6_lays_107 rfl 0 rfl rfl rfl [] rfl (Nat.le_of_ble_eq_true rfl) ⟨Nat.le_of_ble_eq_true rfl, Nat.le_of_ble_eq_true rfl⟩ ⟨rfl, rfl⟩ ⟨Nat.zero_le _, Nat.zero_le _⟩ (fun hF => ?_)
        obtain ⟨h_r_s_23, -⟩ := hF
        refine z_aload_n C dX6_lays_110 0 rfl ?_
        refine z_iconst C dX6_lays_111 ?_
        refine z_puti C zf_X6_89 dX6_lays_112 0 rfl rfl (ws' := [(r_o, z_o 6 [.ref r_Atext, z_i r_typed, .ref r_Atold, .ref r_Adraft, .ref r_Abegun, .ref r_As, .ref r_Apast, z_i 0, .ref r_Aimages, z_i r_kept, .ref r_Arings, z_i r_rung, z_i r_at, .ref r_Astates, .ref r_Aheld, .ref r_Ahere, .ref r_Athere]), (r_Atext, z_a G.2.1 200 r_text), (r_Atold, z_a G.2.1 39 o_r_told_1), (r_Adraft, z_a G.2.1 39 r_draft), (r_Abegun, z_a G.2.1 73 r_begun), (r_As, z_a G.2.1 73 r_s_23), (r_Apast, z_a G.2.1 584 r_past), (r_Aimages, z_a G.2.1 146 r_images), (r_Arings, z_a G.2.1 6 r_rings), (r_Astates, z_a G.2.1 36 r_states), (r_Aheld, z_a G.2.1 73 r_held), (r_Ahere, z_a G.2.2.2.2 36 r_here), (r_Athere, z_a G.2.2.2.2 36 r_there)]) rfl ?_
        refine z_aload_n C dX6_lays_115 0 rfl ?_
        refine z_iconst C dX6_lays_116 ?_
        refine z_puti C zf_X6_92 dX6_lays_117 0 rfl rfl (ws' := [(r_o, z_o 6 [.ref r_Atext, z_i r_typed, .ref r_Atold, .ref r_Adraft, .ref r_Abegun, .ref r_As, .ref r_Apast, z_i 0, .ref r_Aimages, z_i 0, .ref r_Arings, z_i r_rung, z_i r_at, .ref r_Astates, .ref r_Aheld, .ref r_Ahere, .ref r_Athere]), (r_Atext, z_a G.2.1 200 r_text), (r_Atold, z_a G.2.1 39 o_r_told_1), (r_Adraft, z_a G.2.1 39 r_draft), (r_Abegun, z_a G.2.1 73 r_begun), (r_As, z_a G.2.1 73 r_s_23), (r_Apast, z_a G.2.1 584 r_past), (r_Aimages, z_a G.2.1 146 r_images), (r_Arings, z_a G.2.1 6 r_rings), (r_Astates, z_a G.2.1 36 r_states), (r_Aheld, z_a G.2.1 73 r_held), (r_Ahere, z_a G.2.2.2.2 36 r_here), (r_Athere, z_a G.2.2.2.2 36 r_there)]) rfl ?_
        refine z_aload_n C dX6_lays_120 0 rfl ?_
        refine z_iconst C dX6_lays_121 ?_
        refine z_puti C zf_X6_95 dX6_lays_122 0 rfl rfl (ws' := [(r_o, z_o 6 [.ref r_Atext, z_i r_typed, .ref r_Atold, .ref r_Adraft, .ref r_Abegun, .ref r_As, .ref r_Apast, z_i 0, .ref r_Aimages, z_i 0, .ref r_Arings, z_i 0, z_i r_at, .ref r_Astates, .ref r_Aheld, .ref r_Ahere, .ref r_Athere]), (r_Atext, z_a G.2.1 200 r_text), (r_Atold, z_a G.2.1 39 o_r_told_1), (r_Adraft, z_a G.2.1 39 r_draft), (r_Abegun, z_a G.2.1 73 r_begun), (r_As, z_a G.2.1 73 r_s_23), (r_Apast, z_a G.2.1 584 r_past), (r_Aimages, z_a G.2.1 146 r_images), (r_Arings, z_a G.2.1 6 r_rings), (r_Astates, z_a G.2.1 36 r_states), (r_Aheld, z_a G.2.1 73 r_held), (r_Ahere, z_a G.2.2.2.2 36 r_here), (r_Athere, z_a G.2.2.2.2 36 r_there)]) rfl ?_
        cases hm
        exact z_vret C E dX6_lays_125 ⟨rfl, rfl, h_o_r_told_1, h_r_s_23, (z_k 0 rfl), (z_k 0 rfl), (z_k 0 rfl), trivial⟩
      clear hm
      have L3 : ∀ (n3 : Nat) (v1_3 : Int) (r_s_3 : (Int → Int)), z_n v1_3 → z_r r_s_3 → m_X6_lays_l3 N o_r_told_1 n3 v1_3 r_s_3 = some (o_r_s_3) → z_J X 0 0 ([(r_o, z_o 6 [.ref r_Atext, z_i r_typed, .ref r_Atold, .ref r_Adraft, .ref r_Abegun, .ref r_As, .ref r_Apast, z_i r_known, .ref r_Aimages, z_i r_kept, .ref r_Arings, z_i r_rung, z_i r_at, .ref r_Astates, .ref r_Aheld, .ref r_Ahere, .ref r_Athere]), (r_Atext, z_a G.2.1 200 r_text), (r_Atold, z_a G.2.1 39 o_r_told_1), (r_Adraft, z_a G.2.1 39 r_draft), (r_Abegun, z_a G.2.1 73 r_begun), (r_As, z_a G.2.1 73 r_s_3), (r_Apast, z_a G.2.1 584 r_past), (r_Aimages, z_a G.2.1 146 r_images), (r_Arings, z_a G.2.1 6 r_rings), (r_Astates, z_a G.2.1 36 r_states), (r_Aheld, z_a G.2.1 73 r_held), (r_Ahere, z_a G.2.2.2.2 36 r_here), (r_Athere, z_a G.2.2.2.2 36 r_there)]) [(0, .ref r_o), (1, z_i v1_3)] 54 [] := by
        clear hl
        intro n3
        induction n3 with
        | zero =>
          intro v1_3 r_s_3 h_v1_3 h_r_s_3 hm
          rw [m_X6_lays_l3] at hm
          cases hm
        | succ n3 ih3 =>
          intro v1_3 r_s_3 h_v1_3 h_r_s_3 hm
          rw [m_X6_lays_l3] at hm
          refine z_iload_n C dX6_lays_54 1 rfl ?_
          refine z_bipush C dX6_lays_55 (by decide) ?_
          refine z_icmp_ge (tgt := 106) C h_v1_3 (z_k 36 rfl) dX6_lays_57 (by decide) (fun c9 => ?_) (fun c9 => ?_)
          · have hm := z_pos c9 hm
            refine z_sub (L' := [(0, .ref r_o)]) [0] rfl ?_
            cases hm
            exact JX3 h_r_s_3
          · have hm := z_neg c9 hm
            refine z_aload_n C dX6_lays_60 0 rfl ?_
            refine z_get C zf_X6_22 dX6_lays_61 0 rfl rfl ?_
            refine z_iload_n C dX6_lays_64 1 rfl ?_
            refine z_aload_n C dX6_lays_65 0 rfl ?_
            refine z_get C zf_X6_13 dX6_lays_66 0 rfl rfl ?_
            refine z_iconst C dX6_lays_69 ?_
            refine z_iload_n C dX6_lays_70 1 rfl ?_
            obtain ⟨c10, hm⟩ := z_chk_some hm
            refine z_iadd C dX6_lays_71 ?_
            obtain ⟨c11, hm⟩ := z_chk_some hm
            refine z_iald C dX6_lays_72 2 rfl c11 c10 ?_
            refine z_iconst C dX6_lays_73 ?_
            refine z_icmp_eq (tgt := 89) C (h_o_r_told_1 _) (z_k 2 rfl) dX6_lays_74 (by decide) (fun c12 => ?_) (fun c12 => ?_)
            · have hm := z_pos c12 hm
              refine z_iconst C dX6_lays_89 ?_
              refine z_goto (tgt := 99) C dX6_lays_90 (by decide) ?_
              obtain ⟨c13, hm⟩ := z_chk_some hm
              refine z_iast C dX6_lays_99 5 rfl c13 h_v1_3 (ws' := [(r_o, z_o 6 [.ref r_Atext, z_i r_typed, .ref r_Atold, .ref r_Adraft, .ref r_Abegun, .ref r_As, .ref r_Apast, z_i r_known, .ref r_Aimages, z_i r_kept, .ref r_Arings, z_i r_rung, z_i r_at, .ref r_Astates, .ref r_Aheld, .ref r_Ahere, .ref r_Athere]), (r_Atext, z_a G.2.1 200 r_text), (r_Atold, z_a G.2.1 39 o_r_told_1), (r_Adraft, z_a G.2.1 39 r_draft), (r_Abegun, z_a G.2.1 73 r_begun), (r_As, z_a G.2.1 73 (z_up r_s_3 v1_3 0)), (r_Apast, z_a G.2.1 584 r_past), (r_Aimages, z_a G.2.1 146 r_images), (r_Arings, z_a G.2.1 6 r_rings), (r_Astates, z_a G.2.1 36 r_states), (r_Aheld, z_a G.2.1 73 r_held), (r_Ahere, z_a G.2.2.2.2 36 r_here), (r_Athere, z_a G.2.2.2.2 36 r_there)]) rfl ?_
              obtain ⟨c14, hm⟩ := z_chk_some hm
              refine z_iinc C dX6_lays_100 1 rfl (by decide) (L' := [(1, z_i (v1_3 + 1)), (0, .ref r_o)]) rfl ?_
              refine z_goto (tgt := 54) C dX6_lays_103 (by decide) ?_
              refine z_sub (L' := [(0, .ref r_o), (1, z_i (v1_3 + 1))]) [1, 0] rfl ?_
              exact ih3 (v1_3 + 1) (z_up r_s_3 v1_3 0) c14 (z_r_up h_r_s_3 (z_k 0 rfl)) hm
            · have hm := z_neg c12 hm
              refine z_aload_n C dX6_lays_77 0 rfl ?_
              refine z_get C zf_X6_13 dX6_lays_78 0 rfl rfl ?_
              refine z_iconst C dX6_lays_81 ?_
              refine z_iload_n C dX6_lays_82 1 rfl ?_
              obtain ⟨c15, hm⟩ := z_chk_some hm
              refine z_iadd C dX6_lays_83 ?_
              obtain ⟨c16, hm⟩ := z_chk_some hm
              refine z_iald C dX6_lays_84 2 rfl c16 c15 ?_
              refine z_iconst C dX6_lays_85 ?_
              refine z_icmp_ne (tgt := 93) C (h_o_r_told_1 _) (z_k 3 rfl) dX6_lays_86 (by decide) (fun c17 => ?_) (fun c17 => ?_)
              · have hm := z_pos c17 hm
                refine z_aload_n C dX6_lays_93 0 rfl ?_
                refine z_get C zf_X6_22 dX6_lays_94 0 rfl rfl ?_
                refine z_iload_n C dX6_lays_97 1 rfl ?_
                obtain ⟨c18, hm⟩ := z_chk_some hm
                refine z_iald C dX6_lays_98 5 rfl c18 h_v1_3 ?_
                obtain ⟨c19, hm⟩ := z_chk_some hm
                refine z_iast C dX6_lays_99 5 rfl c19 h_v1_3 (ws' := [(r_o, z_o 6 [.ref r_Atext, z_i r_typed, .ref r_Atold, .ref r_Adraft, .ref r_Abegun, .ref r_As, .ref r_Apast, z_i r_known, .ref r_Aimages, z_i r_kept, .ref r_Arings, z_i r_rung, z_i r_at, .ref r_Astates, .ref r_Aheld, .ref r_Ahere, .ref r_Athere]), (r_Atext, z_a G.2.1 200 r_text), (r_Atold, z_a G.2.1 39 o_r_told_1), (r_Adraft, z_a G.2.1 39 r_draft), (r_Abegun, z_a G.2.1 73 r_begun), (r_As, z_a G.2.1 73 (z_up r_s_3 v1_3 (r_s_3 v1_3))), (r_Apast, z_a G.2.1 584 r_past), (r_Aimages, z_a G.2.1 146 r_images), (r_Arings, z_a G.2.1 6 r_rings), (r_Astates, z_a G.2.1 36 r_states), (r_Aheld, z_a G.2.1 73 r_held), (r_Ahere, z_a G.2.2.2.2 36 r_here), (r_Athere, z_a G.2.2.2.2 36 r_there)]) rfl ?_
                obtain ⟨c20, hm⟩ := z_chk_some hm
                refine z_iinc C dX6_lays_100 1 rfl (by decide) (L' := [(1, z_i (v1_3 + 1)), (0, .ref r_o)]) rfl ?_
                refine z_goto (tgt := 54) C dX6_lays_103 (by decide) ?_
                refine z_sub (L' := [(0, .ref r_o), (1, z_i (v1_3 + 1))]) [1, 0] rfl ?_
                exact ih3 (v1_3 + 1) (z_up r_s_3 v1_3 (r_s_3 v1_3)) c20 (z_r_up h_r_s_3 (h_r_s_3 _)) hm
              · have hm := z_neg c17 hm
                refine z_iconst C dX6_lays_89 ?_
                refine z_goto (tgt := 99) C dX6_lays_90 (by decide) ?_
                obtain ⟨c21, hm⟩ := z_chk_some hm
                refine z_iast C dX6_lays_99 5 rfl c21 h_v1_3 (ws' := [(r_o, z_o 6 [.ref r_Atext, z_i r_typed, .ref r_Atold, .ref r_Adraft, .ref r_Abegun, .ref r_As, .ref r_Apast, z_i r_known, .ref r_Aimages, z_i r_kept, .ref r_Arings, z_i r_rung, z_i r_at, .ref r_Astates, .ref r_Aheld, .ref r_Ahere, .ref r_Athere]), (r_Atext, z_a G.2.1 200 r_text), (r_Atold, z_a G.2.1 39 o_r_told_1), (r_Adraft, z_a G.2.1 39 r_draft), (r_Abegun, z_a G.2.1 73 r_begun), (r_As, z_a G.2.1 73 (z_up r_s_3 v1_3 0)), (r_Apast, z_a G.2.1 584 r_past), (r_Aimages, z_a G.2.1 146 r_images), (r_Arings, z_a G.2.1 6 r_rings), (r_Astates, z_a G.2.1 36 r_states), (r_Aheld, z_a G.2.1 73 r_held), (r_Ahere, z_a G.2.2.2.2 36 r_here), (r_Athere, z_a G.2.2.2.2 36 r_there)]) rfl ?_
                obtain ⟨c22, hm⟩ := z_chk_some hm
                refine z_iinc C dX6_lays_100 1 rfl (by decide) (L' := [(1, z_i (v1_3 + 1)), (0, .ref r_o)]) rfl ?_
                refine z_goto (tgt := 54) C dX6_lays_103 (by decide) ?_
                refine z_sub (L' := [(0, .ref r_o), (1, z_i (v1_3 + 1))]) [1, 0] rfl ?_
                exact ih3 (v1_3 + 1) (z_up r_s_3 v1_3 0) c22 (z_r_up h_r_s_3 (z_k 0 rfl)) hm
      refine z_sub (L' := [(0, .ref r_o), (1, z_i 0)]) [1, 0] rfl ?_
      exact L3 N 0 o_r_s_2 (z_k 0 rfl) h_o_r_s_2 hl
    clear hm
    have L2 : ∀ (n2 : Nat) (v1_2 : Int) (r_s_2 : (Int → Int)), z_n v1_2 → z_r r_s_2 → m_X6_lays_l2 N r_begun n2 v1_2 r_s_2 = some (o_r_s_2) → z_J X 0 0 ([(r_o, z_o 6 [.ref r_Atext, z_i r_typed, .ref r_Atold, .ref r_Adraft, .ref r_Abegun, .ref r_As, .ref r_Apast, z_i r_known, .ref r_Aimages, z_i r_kept, .ref r_Arings, z_i r_rung, z_i r_at, .ref r_Astates, .ref r_Aheld, .ref r_Ahere, .ref r_Athere]), (r_Atext, z_a G.2.1 200 r_text), (r_Atold, z_a G.2.1 39 o_r_told_1), (r_Adraft, z_a G.2.1 39 r_draft), (r_Abegun, z_a G.2.1 73 r_begun), (r_As, z_a G.2.1 73 r_s_2), (r_Apast, z_a G.2.1 584 r_past), (r_Aimages, z_a G.2.1 146 r_images), (r_Arings, z_a G.2.1 6 r_rings), (r_Astates, z_a G.2.1 36 r_states), (r_Aheld, z_a G.2.1 73 r_held), (r_Ahere, z_a G.2.2.2.2 36 r_here), (r_Athere, z_a G.2.2.2.2 36 r_there)]) [(0, .ref r_o), (1, z_i v1_2)] 28 [] := by
      clear hl
      intro n2
      induction n2 with
      | zero =>
        intro v1_2 r_s_2 h_v1_2 h_r_s_2 hm
        rw [m_X6_lays_l2] at hm
        cases hm
      | succ n2 ih2 =>
        intro v1_2 r_s_2 h_v1_2 h_r_s_2 hm
        rw [m_X6_lays_l2] at hm
        refine z_iload_n C dX6_lays_28 1 rfl ?_
        refine z_bipush C dX6_lays_29 (by decide) ?_
        refine z_icmp_ge (tgt := 52) C h_v1_2 (z_k 73 rfl) dX6_lays_31 (by decide) (fun c5 => ?_) (fun c5 => ?_)
        · have hm := z_pos c5 hm
          refine z_sub (L' := [(0, .ref r_o)]) [0] rfl ?_
          cases hm
          exact JX2 h_r_s_2
        · have hm := z_neg c5 hm
          refine z_aload_n C dX6_lays_34 0 rfl ?_
          refine z_get C zf_X6_22 dX6_lays_35 0 rfl rfl ?_
          refine z_iload_n C dX6_lays_38 1 rfl ?_
          refine z_aload_n C dX6_lays_39 0 rfl ?_
          refine z_get C zf_X6_19 dX6_lays_40 0 rfl rfl ?_
          refine z_iload_n C dX6_lays_43 1 rfl ?_
          obtain ⟨c6, hm⟩ := z_chk_some hm
          refine z_iald C dX6_lays_44 4 rfl c6 h_v1_2 ?_
          obtain ⟨c7, hm⟩ := z_chk_some hm
          refine z_iast C dX6_lays_45 5 rfl c7 h_v1_2 (ws' := [(r_o, z_o 6 [.ref r_Atext, z_i r_typed, .ref r_Atold, .ref r_Adraft, .ref r_Abegun, .ref r_As, .ref r_Apast, z_i r_known, .ref r_Aimages, z_i r_kept, .ref r_Arings, z_i r_rung, z_i r_at, .ref r_Astates, .ref r_Aheld, .ref r_Ahere, .ref r_Athere]), (r_Atext, z_a G.2.1 200 r_text), (r_Atold, z_a G.2.1 39 o_r_told_1), (r_Adraft, z_a G.2.1 39 r_draft), (r_Abegun, z_a G.2.1 73 r_begun), (r_As, z_a G.2.1 73 (z_up r_s_2 v1_2 (r_begun v1_2))), (r_Apast, z_a G.2.1 584 r_past), (r_Aimages, z_a G.2.1 146 r_images), (r_Arings, z_a G.2.1 6 r_rings), (r_Astates, z_a G.2.1 36 r_states), (r_Aheld, z_a G.2.1 73 r_held), (r_Ahere, z_a G.2.2.2.2 36 r_here), (r_Athere, z_a G.2.2.2.2 36 r_there)]) rfl ?_
          obtain ⟨c8, hm⟩ := z_chk_some hm
          refine z_iinc C dX6_lays_46 1 rfl (by decide) (L' := [(1, z_i (v1_2 + 1)), (0, .ref r_o)]) rfl ?_
          refine z_goto (tgt := 28) C dX6_lays_49 (by decide) ?_
          refine z_sub (L' := [(0, .ref r_o), (1, z_i (v1_2 + 1))]) [1, 0] rfl ?_
          exact ih2 (v1_2 + 1) (z_up r_s_2 v1_2 (r_begun v1_2)) c8 (z_r_up h_r_s_2 (h_r_begun _)) hm
    refine z_sub (L' := [(0, .ref r_o), (1, z_i 0)]) [1, 0] rfl ?_
    exact L2 N 0 r_s (z_k 0 rfl) h_r_s hl
  clear hm
  have L1 : ∀ (n1 : Nat) (v1_1 : Int) (r_told_1 : (Int → Int)), z_n v1_1 → z_r r_told_1 → m_X6_lays_l1 N r_draft n1 v1_1 r_told_1 = some (o_r_told_1) → z_J X 0 0 ([(r_o, z_o 6 [.ref r_Atext, z_i r_typed, .ref r_Atold, .ref r_Adraft, .ref r_Abegun, .ref r_As, .ref r_Apast, z_i r_known, .ref r_Aimages, z_i r_kept, .ref r_Arings, z_i r_rung, z_i r_at, .ref r_Astates, .ref r_Aheld, .ref r_Ahere, .ref r_Athere]), (r_Atext, z_a G.2.1 200 r_text), (r_Atold, z_a G.2.1 39 r_told_1), (r_Adraft, z_a G.2.1 39 r_draft), (r_Abegun, z_a G.2.1 73 r_begun), (r_As, z_a G.2.1 73 r_s), (r_Apast, z_a G.2.1 584 r_past), (r_Aimages, z_a G.2.1 146 r_images), (r_Arings, z_a G.2.1 6 r_rings), (r_Astates, z_a G.2.1 36 r_states), (r_Aheld, z_a G.2.1 73 r_held), (r_Ahere, z_a G.2.2.2.2 36 r_here), (r_Athere, z_a G.2.2.2.2 36 r_there)]) [(0, .ref r_o), (1, z_i v1_1)] 2 [] := by
    clear hl
    intro n1
    induction n1 with
    | zero =>
      intro v1_1 r_told_1 h_v1_1 h_r_told_1 hm
      rw [m_X6_lays_l1] at hm
      cases hm
    | succ n1 ih1 =>
      intro v1_1 r_told_1 h_v1_1 h_r_told_1 hm
      rw [m_X6_lays_l1] at hm
      refine z_iload_n C dX6_lays_2 1 rfl ?_
      refine z_bipush C dX6_lays_3 (by decide) ?_
      refine z_icmp_ge (tgt := 26) C h_v1_1 (z_k 39 rfl) dX6_lays_5 (by decide) (fun c1 => ?_) (fun c1 => ?_)
      · have hm := z_pos c1 hm
        refine z_sub (L' := [(0, .ref r_o)]) [0] rfl ?_
        cases hm
        exact JX1 h_r_told_1
      · have hm := z_neg c1 hm
        refine z_aload_n C dX6_lays_8 0 rfl ?_
        refine z_get C zf_X6_13 dX6_lays_9 0 rfl rfl ?_
        refine z_iload_n C dX6_lays_12 1 rfl ?_
        refine z_aload_n C dX6_lays_13 0 rfl ?_
        refine z_get C zf_X6_16 dX6_lays_14 0 rfl rfl ?_
        refine z_iload_n C dX6_lays_17 1 rfl ?_
        obtain ⟨c2, hm⟩ := z_chk_some hm
        refine z_iald C dX6_lays_18 3 rfl c2 h_v1_1 ?_
        obtain ⟨c3, hm⟩ := z_chk_some hm
        refine z_iast C dX6_lays_19 2 rfl c3 h_v1_1 (ws' := [(r_o, z_o 6 [.ref r_Atext, z_i r_typed, .ref r_Atold, .ref r_Adraft, .ref r_Abegun, .ref r_As, .ref r_Apast, z_i r_known, .ref r_Aimages, z_i r_kept, .ref r_Arings, z_i r_rung, z_i r_at, .ref r_Astates, .ref r_Aheld, .ref r_Ahere, .ref r_Athere]), (r_Atext, z_a G.2.1 200 r_text), (r_Atold, z_a G.2.1 39 (z_up r_told_1 v1_1 (r_draft v1_1))), (r_Adraft, z_a G.2.1 39 r_draft), (r_Abegun, z_a G.2.1 73 r_begun), (r_As, z_a G.2.1 73 r_s), (r_Apast, z_a G.2.1 584 r_past), (r_Aimages, z_a G.2.1 146 r_images), (r_Arings, z_a G.2.1 6 r_rings), (r_Astates, z_a G.2.1 36 r_states), (r_Aheld, z_a G.2.1 73 r_held), (r_Ahere, z_a G.2.2.2.2 36 r_here), (r_Athere, z_a G.2.2.2.2 36 r_there)]) rfl ?_
        obtain ⟨c4, hm⟩ := z_chk_some hm
        refine z_iinc C dX6_lays_20 1 rfl (by decide) (L' := [(1, z_i (v1_1 + 1)), (0, .ref r_o)]) rfl ?_
        refine z_goto (tgt := 2) C dX6_lays_23 (by decide) ?_
        refine z_sub (L' := [(0, .ref r_o), (1, z_i (v1_1 + 1))]) [1, 0] rfl ?_
        exact ih1 (v1_1 + 1) (z_up r_told_1 v1_1 (r_draft v1_1)) c4 (z_r_up h_r_told_1 (h_r_draft _)) hm
  refine z_sub (L' := [(0, .ref r_o), (1, z_i 0)]) [1, 0] rfl ?_
  exact L1 N 0 r_told (z_k 0 rfl) h_r_told hl
