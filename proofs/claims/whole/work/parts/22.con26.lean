set_option maxRecDepth 100000 in
theorem k_X6_rains (l : Launch) (G : z_G) (N : Nat) (r_o r_Atext r_Atold r_Adraft r_Abegun r_As r_Apast r_Aimages r_Arings r_Astates r_Aheld r_Ahere r_Athere : Nat) (r_text : (Int → Int)) (r_typed : Int) (r_told : (Int → Int)) (r_draft : (Int → Int)) (r_begun : (Int → Int)) (r_s : (Int → Int)) (r_past : (Int → Int)) (r_known : Int) (r_images : (Int → Int)) (r_kept : Int) (r_rings : (Int → Int)) (r_rung : Int) (r_at : Int) (r_states : (Int → Int)) (r_held : (Int → Int)) (r_here : (Int → Int)) (r_there : (Int → Int)) (h_r_text : z_r r_text) (h_r_typed : z_n r_typed) (h_r_told : z_r r_told) (h_r_draft : z_r r_draft) (h_r_begun : z_r r_begun) (h_r_s : z_r r_s) (h_r_past : z_r r_past) (h_r_known : z_n r_known) (h_r_images : z_r r_images) (h_r_kept : z_n r_kept) (h_r_rings : z_r r_rings) (h_r_rung : z_n r_rung) (h_r_at : z_n r_at) (h_r_states : z_r r_states) (h_r_held : z_r r_held) (h_r_here : z_r r_here) (h_r_there : z_r r_there) (rr : Int) (q_r_s : (Int → Int)) (q_r_held : (Int → Int)) (hm : m_X6_rains N r_told r_s r_rings r_rung r_held = some (rr, q_r_s, q_r_held)) : z_M l G yX6_rains cX6_rains 5 (some .int) (k2_rm 6 139) [.ref r_o] ([(r_o, z_o 6 [.ref r_Atext, z_i r_typed, .ref r_Atold, .ref r_Adraft, .ref r_Abegun, .ref r_As, .ref r_Apast, z_i r_known, .ref r_Aimages, z_i r_kept, .ref r_Arings, z_i r_rung, z_i r_at, .ref r_Astates, .ref r_Aheld, .ref r_Ahere, .ref r_Athere]), (r_Atext, z_a G.2.1 200 r_text), (r_Atold, z_a G.2.1 39 r_told), (r_Adraft, z_a G.2.1 39 r_draft), (r_Abegun, z_a G.2.1 73 r_begun), (r_As, z_a G.2.1 73 r_s), (r_Apast, z_a G.2.1 584 r_past), (r_Aimages, z_a G.2.1 146 r_images), (r_Arings, z_a G.2.1 6 r_rings), (r_Astates, z_a G.2.1 36 r_states), (r_Aheld, z_a G.2.1 73 r_held), (r_Ahere, z_a G.2.2.2.2 36 r_here), (r_Athere, z_a G.2.2.2.2 36 r_there)]) 0 0 (fun v w => v = some (z_i rr) ∧ w = [(r_o, z_o 6 [.ref r_Atext, z_i r_typed, .ref r_Atold, .ref r_Adraft, .ref r_Abegun, .ref r_As, .ref r_Apast, z_i r_known, .ref r_Aimages, z_i r_kept, .ref r_Arings, z_i r_rung, z_i r_at, .ref r_Astates, .ref r_Aheld, .ref r_Ahere, .ref r_Athere]), (r_Atext, z_a G.2.1 200 r_text), (r_Atold, z_a G.2.1 39 r_told), (r_Adraft, z_a G.2.1 39 r_draft), (r_Abegun, z_a G.2.1 73 r_begun), (r_As, z_a G.2.1 73 q_r_s), (r_Apast, z_a G.2.1 584 r_past), (r_Aimages, z_a G.2.1 146 r_images), (r_Arings, z_a G.2.1 6 r_rings), (r_Astates, z_a G.2.1 36 r_states), (r_Aheld, z_a G.2.1 73 q_r_held), (r_Ahere, z_a G.2.2.2.2 36 r_here), (r_Athere, z_a G.2.2.2.2 36 r_there)] ∧ z_n rr ∧ z_r q_r_s ∧ z_r q_r_held ∧ True) := by
  unfold m_X6_rains at hm
  refine z_M.intro (by decide +kernel) (Nat.le_of_ble_eq_true rfl) (L := [(0, .ref r_o)]) rfl (fun X C E => ?_)
  refine z_aload_n C dX6_rains_0 0 rfl ?_
  obtain ⟨r_held_1, k2, hm⟩ := z_b1s hm
  refine z_callVvd C (k_X6_holds l G N r_o r_Atext r_Atold r_Adraft r_Abegun r_As r_Apast r_Aimages r_Arings r_Astates r_Aheld r_Ahere r_Athere r_text r_typed r_told r_draft r_begun r_s r_past r_known r_images r_kept r_rings r_rung r_at r_states r_held r_here r_there h_r_text h_r_typed h_r_told h_r_draft h_r_begun h_r_s h_r_past h_r_known h_r_images h_r_kept h_r_rings h_r_rung h_r_at h_r_states h_r_held h_r_here h_r_there r_held_1 k2) zv_X6_holds zl_X6_137 dX6_rains_1 rfl 0 rfl rfl rfl [] rfl (Nat.le_of_ble_eq_true rfl) ⟨Nat.le_of_ble_eq_true rfl, Nat.le_of_ble_eq_true rfl⟩ ⟨rfl, rfl⟩ ⟨Nat.zero_le _, Nat.zero_le _⟩ (fun hF => ?_)
  obtain ⟨h_r_held_1, -⟩ := hF
  refine z_iconst C dX6_rains_4 ?_
  refine z_istore_n C dX6_rains_5 (by decide) (L' := [(1, z_i 0), (0, .ref r_o)]) rfl ?_
  refine z_iconst C dX6_rains_6 ?_
  refine z_istore_n C dX6_rains_7 (by decide) (L' := [(2, z_i 0), (1, z_i 0), (0, .ref r_o)]) rfl ?_
  obtain ⟨o1_1, o_r_s_1, hl, hm⟩ := z_b2s hm
  have JX1 : z_n o1_1 → z_r o_r_s_1 → z_J X 0 0 ([(r_o, z_o 6 [.ref r_Atext, z_i r_typed, .ref r_Atold, .ref r_Adraft, .ref r_Abegun, .ref r_As, .ref r_Apast, z_i r_known, .ref r_Aimages, z_i r_kept, .ref r_Arings, z_i r_rung, z_i r_at, .ref r_Astates, .ref r_Aheld, .ref r_Ahere, .ref r_Athere]), (r_Atext, z_a G.2.1 200 r_text), (r_Atold, z_a G.2.1 39 r_told), (r_Adraft, z_a G.2.1 39 r_draft), (r_Abegun, z_a G.2.1 73 r_begun), (r_As, z_a G.2.1 73 o_r_s_1), (r_Apast, z_a G.2.1 584 r_past), (r_Aimages, z_a G.2.1 146 r_images), (r_Arings, z_a G.2.1 6 r_rings), (r_Astates, z_a G.2.1 36 r_states), (r_Aheld, z_a G.2.1 73 r_held_1), (r_Ahere, z_a G.2.2.2.2 36 r_here), (r_Athere, z_a G.2.2.2.2 36 r_there)]) [(1, z_i o1_1)] 105 [] := by
    intro h_o1_1 h_o_r_s_1
    clear hl
    refine z_iload_n C dX6_rains_105 0 rfl ?_
    cases hm
    exact z_iret C E dX6_rains_106 ⟨rfl, rfl, h_o1_1, h_o_r_s_1, h_r_held_1, trivial⟩
  clear hm
  have L1 : ∀ (n1 : Nat) (v1_1 : Int) (v2_1 : Int) (r_s_1 : (Int → Int)), z_n v1_1 → z_n v2_1 → z_r r_s_1 → m_X6_rains_l1 N r_told r_rung r_rings r_held_1 n1 v1_1 v2_1 r_s_1 = some (o1_1, o_r_s_1) → z_J X 0 0 ([(r_o, z_o 6 [.ref r_Atext, z_i r_typed, .ref r_Atold, .ref r_Adraft, .ref r_Abegun, .ref r_As, .ref r_Apast, z_i r_known, .ref r_Aimages, z_i r_kept, .ref r_Arings, z_i r_rung, z_i r_at, .ref r_Astates, .ref r_Aheld, .ref r_Ahere, .ref r_Athere]), (r_Atext, z_a G.2.1 200 r_text), (r_Atold, z_a G.2.1 39 r_told), (r_Adraft, z_a G.2.1 39 r_draft), (r_Abegun, z_a G.2.1 73 r_begun), (r_As, z_a G.2.1 73 r_s_1), (r_Apast, z_a G.2.1 584 r_past), (r_Aimages, z_a G.2.1 146 r_images), (r_Arings, z_a G.2.1 6 r_rings), (r_Astates, z_a G.2.1 36 r_states), (r_Aheld, z_a G.2.1 73 r_held_1), (r_Ahere, z_a G.2.2.2.2 36 r_here), (r_Athere, z_a G.2.2.2.2 36 r_there)]) [(0, .ref r_o), (1, z_i v1_1), (2, z_i v2_1)] 8 [] := by
    clear hl
    intro n1
    induction n1 with
    | zero =>
      intro v1_1 v2_1 r_s_1 h_v1_1 h_v2_1 h_r_s_1 hm
      rw [m_X6_rains_l1] at hm
      cases hm
    | succ n1 ih1 =>
      intro v1_1 v2_1 r_s_1 h_v1_1 h_v2_1 h_r_s_1 hm
      rw [m_X6_rains_l1] at hm
      refine z_iload_n C dX6_rains_8 2 rfl ?_
      refine z_bipush C dX6_rains_9 (by decide) ?_
      refine z_icmp_ge (tgt := 105) C h_v2_1 (z_k 31 rfl) dX6_rains_11 (by decide) (fun c3 => ?_) (fun c3 => ?_)
      · have hm := z_pos c3 hm
        refine z_sub (L' := [(1, z_i v1_1)]) [1] rfl ?_
        cases hm
        exact JX1 h_v1_1 h_r_s_1
      · have hm := z_neg c3 hm
        refine z_iload_n C dX6_rains_14 2 rfl ?_
        obtain ⟨r_s_7, hj, hm⟩ := z_b1s hm
        have J8 : z_r r_s_7 → z_J X 0 0 ([(r_o, z_o 6 [.ref r_Atext, z_i r_typed, .ref r_Atold, .ref r_Adraft, .ref r_Abegun, .ref r_As, .ref r_Apast, z_i r_known, .ref r_Aimages, z_i r_kept, .ref r_Arings, z_i r_rung, z_i r_at, .ref r_Astates, .ref r_Aheld, .ref r_Ahere, .ref r_Athere]), (r_Atext, z_a G.2.1 200 r_text), (r_Atold, z_a G.2.1 39 r_told), (r_Adraft, z_a G.2.1 39 r_draft), (r_Abegun, z_a G.2.1 73 r_begun), (r_As, z_a G.2.1 73 r_s_7), (r_Apast, z_a G.2.1 584 r_past), (r_Aimages, z_a G.2.1 146 r_images), (r_Arings, z_a G.2.1 6 r_rings), (r_Astates, z_a G.2.1 36 r_states), (r_Aheld, z_a G.2.1 73 r_held_1), (r_Ahere, z_a G.2.2.2.2 36 r_here), (r_Athere, z_a G.2.2.2.2 36 r_there)]) [(0, .ref r_o), (1, z_i v1_1), (2, z_i v2_1)] 23 [] := by
          intro h_r_s_7
          clear hj
          refine z_iconst C dX6_rains_23 ?_
          refine z_istore_n C dX6_rains_24 (by decide) (L' := [(3, z_i 1), (0, .ref r_o), (1, z_i v1_1), (2, z_i v2_1)]) rfl ?_
          refine z_iconst C dX6_rains_25 ?_
          refine z_istore C dX6_rains_26 (by decide) (L' := [(4, z_i 0), (3, z_i 1), (0, .ref r_o), (1, z_i v1_1), (2, z_i v2_1)]) rfl ?_
          obtain ⟨o3_2, hl, hm⟩ := z_b1s hm
          have JX2 : z_n o3_2 → z_J X 0 0 ([(r_o, z_o 6 [.ref r_Atext, z_i r_typed, .ref r_Atold, .ref r_Adraft, .ref r_Abegun, .ref r_As, .ref r_Apast, z_i r_known, .ref r_Aimages, z_i r_kept, .ref r_Arings, z_i r_rung, z_i r_at, .ref r_Astates, .ref r_Aheld, .ref r_Ahere, .ref r_Athere]), (r_Atext, z_a G.2.1 200 r_text), (r_Atold, z_a G.2.1 39 r_told), (r_Adraft, z_a G.2.1 39 r_draft), (r_Abegun, z_a G.2.1 73 r_begun), (r_As, z_a G.2.1 73 r_s_7), (r_Apast, z_a G.2.1 584 r_past), (r_Aimages, z_a G.2.1 146 r_images), (r_Arings, z_a G.2.1 6 r_rings), (r_Astates, z_a G.2.1 36 r_states), (r_Aheld, z_a G.2.1 73 r_held_1), (r_Ahere, z_a G.2.2.2.2 36 r_here), (r_Athere, z_a G.2.2.2.2 36 r_there)]) [(0, .ref r_o), (1, z_i v1_1), (2, z_i v2_1), (3, z_i o3_2)] 81 [] := by
            intro h_o3_2
            clear hl
            refine z_iload_n C dX6_rains_81 1 rfl ?_
            refine z_iload_n C dX6_rains_82 3 rfl ?_
            obtain ⟨s21, hj, hm⟩ := z_b1s hm
            have J22 : z_n s21 → z_J X 0 0 ([(r_o, z_o 6 [.ref r_Atext, z_i r_typed, .ref r_Atold, .ref r_Adraft, .ref r_Abegun, .ref r_As, .ref r_Apast, z_i r_known, .ref r_Aimages, z_i r_kept, .ref r_Arings, z_i r_rung, z_i r_at, .ref r_Astates, .ref r_Aheld, .ref r_Ahere, .ref r_Athere]), (r_Atext, z_a G.2.1 200 r_text), (r_Atold, z_a G.2.1 39 r_told), (r_Adraft, z_a G.2.1 39 r_draft), (r_Abegun, z_a G.2.1 73 r_begun), (r_As, z_a G.2.1 73 r_s_7), (r_Apast, z_a G.2.1 584 r_past), (r_Aimages, z_a G.2.1 146 r_images), (r_Arings, z_a G.2.1 6 r_rings), (r_Astates, z_a G.2.1 36 r_states), (r_Aheld, z_a G.2.1 73 r_held_1), (r_Ahere, z_a G.2.2.2.2 36 r_here), (r_Athere, z_a G.2.2.2.2 36 r_there)]) [(0, .ref r_o), (2, z_i v2_1)] 93 [z_i s21, z_i v1_1] := by
              intro h_s21
              clear hj
              refine z_ior C dX6_rains_93 ?_
              refine z_istore_n C dX6_rains_94 (by decide) (L' := [(1, z_i (z_or v1_1 s21)), (0, .ref r_o), (2, z_i v2_1)]) rfl ?_
              refine z_aload_n C dX6_rains_95 1 rfl ?_
              obtain ⟨r_s_23, k24, hm⟩ := z_b1s hm
              refine z_callVvd C (k_X6_lets l G N r_o r_Atext r_Atold r_Adraft r_Abegun r_As r_Apast r_Aimages r_Arings r_Astates r_Aheld r_Ahere r_Athere r_text r_typed r_told r_draft r_begun r_s_7 r_past r_known r_images r_kept r_rings r_rung r_at r_states r_held_1 r_here r_there h_r_text h_r_typed h_r_told h_r_draft h_r_begun h_r_s_7 h_r_past h_r_known h_r_images h_r_kept h_r_rings h_r_rung h_r_at h_r_states h_r_held_1 h_r_here h_r_there r_s_23 k24) zv_X6_lets zl_X6_140 dX6_rains_96 rfl 0 rfl rfl rfl [] rfl (Nat.le_of_ble_eq_true rfl) ⟨Nat.le_of_ble_eq_true rfl, Nat.le_of_ble_eq_true rfl⟩ ⟨rfl, rfl⟩ ⟨Nat.zero_le _, Nat.zero_le _⟩ (fun hF => ?_)
              obtain ⟨h_r_s_23, -⟩ := hF
              obtain ⟨c25, hm⟩ := z_chk_some hm
              refine z_iinc C dX6_rains_99 2 rfl (by decide) (L' := [(2, z_i (v2_1 + 1)), (1, z_i (z_or v1_1 s21)), (0, .ref r_o)]) rfl ?_
              refine z_goto (tgt := 8) C dX6_rains_102 (by decide) ?_
              refine z_sub (L' := [(0, .ref r_o), (1, z_i (z_or v1_1 s21)), (2, z_i (v2_1 + 1))]) [2, 1, 0] rfl ?_
              exact ih1 (z_or v1_1 s21) (v2_1 + 1) r_s_23 (z_n_or _ _) c25 h_r_s_23 hm
            replace hm := hj
            clear hj
            refine z_if_eq (tgt := 92) C h_o3_2 dX6_rains_83 (by decide) (fun c20 => ?_) (fun c20 => ?_)
            · have hm := z_pos c20 hm
              refine z_iconst C dX6_rains_92 ?_
              refine z_sub (L' := [(0, .ref r_o), (2, z_i v2_1)]) [0, 2] rfl ?_
              cases hm
              exact J22 (z_k 0 rfl)
            · have hm := z_neg c20 hm
              refine z_iconst C dX6_rains_86 ?_
              refine z_iload_n C dX6_rains_87 2 rfl ?_
              refine z_ishl C dX6_rains_88 ?_
              refine z_goto (tgt := 93) C dX6_rains_89 (by decide) ?_
              refine z_sub (L' := [(0, .ref r_o), (2, z_i v2_1)]) [0, 2] rfl ?_
              cases hm
              exact J22 (z_n_shl _ _)
          clear hm
          have L2 : ∀ (n2 : Nat) (v3_2 : Int) (v4_2 : Int), z_n v3_2 → z_n v4_2 → m_X6_rains_l2 N r_rung r_rings r_s_7 n2 v3_2 v4_2 = some (o3_2) → z_J X 0 0 ([(r_o, z_o 6 [.ref r_Atext, z_i r_typed, .ref r_Atold, .ref r_Adraft, .ref r_Abegun, .ref r_As, .ref r_Apast, z_i r_known, .ref r_Aimages, z_i r_kept, .ref r_Arings, z_i r_rung, z_i r_at, .ref r_Astates, .ref r_Aheld, .ref r_Ahere, .ref r_Athere]), (r_Atext, z_a G.2.1 200 r_text), (r_Atold, z_a G.2.1 39 r_told), (r_Adraft, z_a G.2.1 39 r_draft), (r_Abegun, z_a G.2.1 73 r_begun), (r_As, z_a G.2.1 73 r_s_7), (r_Apast, z_a G.2.1 584 r_past), (r_Aimages, z_a G.2.1 146 r_images), (r_Arings, z_a G.2.1 6 r_rings), (r_Astates, z_a G.2.1 36 r_states), (r_Aheld, z_a G.2.1 73 r_held_1), (r_Ahere, z_a G.2.2.2.2 36 r_here), (r_Athere, z_a G.2.2.2.2 36 r_there)]) [(0, .ref r_o), (1, z_i v1_1), (2, z_i v2_1), (3, z_i v3_2), (4, z_i v4_2)] 28 [] := by
            clear hl
            intro n2
            induction n2 with
            | zero =>
              intro v3_2 v4_2 h_v3_2 h_v4_2 hm
              rw [m_X6_rains_l2] at hm
              cases hm
            | succ n2 ih2 =>
              intro v3_2 v4_2 h_v3_2 h_v4_2 hm
              rw [m_X6_rains_l2] at hm
              refine z_iload C dX6_rains_28 4 rfl ?_
              refine z_aload_n C dX6_rains_30 0 rfl ?_
              refine z_get C zf_X6_95 dX6_rains_31 0 rfl rfl ?_
              refine z_icmp_ge (tgt := 81) C h_v4_2 h_r_rung dX6_rains_34 (by decide) (fun c9 => ?_) (fun c9 => ?_)
              · have hm := z_pos c9 hm
                refine z_sub (L' := [(0, .ref r_o), (1, z_i v1_1), (2, z_i v2_1), (3, z_i v3_2)]) [0, 1, 2, 3] rfl ?_
                cases hm
                exact JX2 h_v3_2
              · have hm := z_neg c9 hm
                refine z_iload_n C dX6_rains_37 3 rfl ?_
                refine z_if_eq (tgt := 73) C h_v3_2 dX6_rains_38 (by decide) (fun c10 => ?_) (fun c10 => ?_)
                · have hm := z_pos c10 hm
                  refine z_iconst C dX6_rains_73 ?_
                  refine z_istore_n C dX6_rains_74 (by decide) (L' := [(3, z_i 0), (0, .ref r_o), (1, z_i v1_1), (2, z_i v2_1), (4, z_i v4_2)]) rfl ?_
                  obtain ⟨c11, hm⟩ := z_chk_some hm
                  refine z_iinc C dX6_rains_75 4 rfl (by decide) (L' := [(4, z_i (v4_2 + 1)), (3, z_i 0), (0, .ref r_o), (1, z_i v1_1), (2, z_i v2_1)]) rfl ?_
                  refine z_goto (tgt := 28) C dX6_rains_78 (by decide) ?_
                  refine z_sub (L' := [(0, .ref r_o), (1, z_i v1_1), (2, z_i v2_1), (3, z_i 0), (4, z_i (v4_2 + 1))]) [2, 3, 4, 1, 0] rfl ?_
                  exact ih2 0 (v4_2 + 1) (z_k 0 rfl) c11 hm
                · have hm := z_neg c10 hm
                  refine z_aload_n C dX6_rains_41 0 rfl ?_
                  refine z_get C zf_X6_22 dX6_rains_42 0 rfl rfl ?_
                  refine z_aload_n C dX6_rains_45 0 rfl ?_
                  refine z_get C zf_X6_31 dX6_rains_46 0 rfl rfl ?_
                  refine z_iload C dX6_rains_49 4 rfl ?_
                  obtain ⟨c12, hm⟩ := z_chk_some hm
                  refine z_iald C dX6_rains_51 8 rfl c12 h_v4_2 ?_
                  refine z_bipush C dX6_rains_52 (by decide) ?_
                  obtain ⟨c13, hm⟩ := z_chk_some hm
                  refine z_idiv C (h_r_rings _) (z_k 100 rfl) (by decide) dX6_rains_54 ?_
                  obtain ⟨c14, hm⟩ := z_chk_some hm
                  refine z_iald C dX6_rains_55 5 rfl c14 c13 ?_
                  refine z_aload_n C dX6_rains_56 0 rfl ?_
                  refine z_get C zf_X6_31 dX6_rains_57 0 rfl rfl ?_
                  refine z_iload C dX6_rains_60 4 rfl ?_
                  obtain ⟨c15, hm⟩ := z_chk_some hm
                  refine z_iald C dX6_rains_62 8 rfl c15 h_v4_2 ?_
                  refine z_bipush C dX6_rains_63 (by decide) ?_
                  obtain ⟨c16, hm⟩ := z_chk_some hm
                  refine z_irem C (h_r_rings _) (z_k 100 rfl) (by decide) dX6_rains_65 ?_
                  refine z_icmp_ne (tgt := 73) C (h_r_s_7 _) c16 dX6_rains_66 (by decide) (fun c17 => ?_) (fun c17 => ?_)
                  · have hm := z_pos c17 hm
                    refine z_iconst C dX6_rains_73 ?_
                    refine z_istore_n C dX6_rains_74 (by decide) (L' := [(3, z_i 0), (0, .ref r_o), (1, z_i v1_1), (2, z_i v2_1), (4, z_i v4_2)]) rfl ?_
                    obtain ⟨c18, hm⟩ := z_chk_some hm
                    refine z_iinc C dX6_rains_75 4 rfl (by decide) (L' := [(4, z_i (v4_2 + 1)), (3, z_i 0), (0, .ref r_o), (1, z_i v1_1), (2, z_i v2_1)]) rfl ?_
                    refine z_goto (tgt := 28) C dX6_rains_78 (by decide) ?_
                    refine z_sub (L' := [(0, .ref r_o), (1, z_i v1_1), (2, z_i v2_1), (3, z_i 0), (4, z_i (v4_2 + 1))]) [2, 3, 4, 1, 0] rfl ?_
                    exact ih2 0 (v4_2 + 1) (z_k 0 rfl) c18 hm
                  · have hm := z_neg c17 hm
                    refine z_iconst C dX6_rains_69 ?_
                    refine z_goto (tgt := 74) C dX6_rains_70 (by decide) ?_
                    refine z_istore_n C dX6_rains_74 (by decide) (L' := [(3, z_i 1), (0, .ref r_o), (1, z_i v1_1), (2, z_i v2_1), (4, z_i v4_2)]) rfl ?_
                    obtain ⟨c19, hm⟩ := z_chk_some hm
                    refine z_iinc C dX6_rains_75 4 rfl (by decide) (L' := [(4, z_i (v4_2 + 1)), (3, z_i 1), (0, .ref r_o), (1, z_i v1_1), (2, z_i v2_1)]) rfl ?_
                    refine z_goto (tgt := 28) C dX6_rains_78 (by decide) ?_
                    refine z_sub (L' := [(0, .ref r_o), (1, z_i v1_1), (2, z_i v2_1), (3, z_i 1), (4, z_i (v4_2 + 1))]) [2, 3, 4, 1, 0] rfl ?_
                    exact ih2 1 (v4_2 + 1) (z_k 1 rfl) c19 hm
          refine z_sub (L' := [(0, .ref r_o), (1, z_i v1_1), (2, z_i v2_1), (3, z_i 1), (4, z_i 0)]) [2, 3, 4, 1, 0] rfl ?_
          exact L2 N 1 0 (z_k 1 rfl) (z_k 0 rfl) hl
        replace hm := hj
        clear hj
        refine z_if_le (tgt := 23) C h_v2_1 dX6_rains_15 (by decide) (fun c4 => ?_) (fun c4 => ?_)
        · have hm := z_pos c4 hm
          cases hm
          exact J8 h_r_s_1
        · have hm := z_neg c4 hm
          refine z_aload_n C dX6_rains_18 0 rfl ?_
          refine z_iload_n C dX6_rains_19 2 rfl ?_
          obtain ⟨r_s_5, k6, hm⟩ := z_b1s hm
          refine z_callVvd C (k_X6_pours l G N r_o r_Atext r_Atold r_Adraft r_Abegun r_As r_Apast r_Aimages r_Arings r_Astates r_Aheld r_Ahere r_Athere r_text r_typed r_told r_draft r_begun r_s_1 r_past r_known r_images r_kept r_rings r_rung r_at r_states r_held_1 r_here r_there v2_1 h_r_text h_r_typed h_r_told h_r_draft h_r_begun h_r_s_1 h_r_past h_r_known h_r_images h_r_kept h_r_rings h_r_rung h_r_at h_r_states h_r_held_1 h_r_here h_r_there h_v2_1 r_s_5 k6) zv_X6_pours zl_X6_127 dX6_rains_20 rfl 0 rfl rfl rfl [] rfl (Nat.le_of_ble_eq_true rfl) ⟨Nat.le_of_ble_eq_true rfl, Nat.le_of_ble_eq_true rfl⟩ ⟨rfl, rfl⟩ ⟨Nat.zero_le _, Nat.zero_le _⟩ (fun hF => ?_)
          obtain ⟨h_r_s_5, -⟩ := hF
          cases hm
          exact J8 h_r_s_5
  refine z_sub (L' := [(0, .ref r_o), (1, z_i 0), (2, z_i 0)]) [2, 1, 0] rfl ?_
  exact L1 N 0 0 r_s (z_k 0 rfl) (z_k 0 rfl) h_r_s hl
set_option maxRecDepth 100000 in
theorem k_X6_wet (l : Launch) (G : z_G) (N : Nat) (r_o r_Atext r_Atold r_Adraft r_Abegun r_As r_Apast r_Aimages r_Arings r_Astates r_Aheld r_Ahere r_Athere : Nat) (r_text : (Int → Int)) (r_typed : Int) (r_told : (Int → Int)) (r_draft : (Int → Int)) (r_begun : (Int → Int)) (r_s : (Int → Int)) (r_past : (Int → Int)) (r_known : Int) (r_images : (Int → Int)) (r_kept : Int) (r_rings : (Int → Int)) (r_rung : Int) (r_at : Int) (r_states : (Int → Int)) (r_held : (Int → Int)) (r_here : (Int → Int)) (r_there : (Int → Int)) (h_r_text : z_r r_text) (h_r_typed : z_n r_typed) (h_r_told : z_r r_told) (h_r_draft : z_r r_draft) (h_r_begun : z_r r_begun) (h_r_s : z_r r_s) (h_r_past : z_r r_past) (h_r_known : z_n r_known) (h_r_images : z_r r_images) (h_r_kept : z_n r_kept) (h_r_rings : z_r r_rings) (h_r_rung : z_n r_rung) (h_r_at : z_n r_at) (h_r_states : z_r r_states) (h_r_held : z_r r_held) (h_r_here : z_r r_here) (h_r_there : z_r r_there) (rr : Int) (hm : m_X6_wet N r_told r_s = some (rr)) : z_M l G yX6_wet cX6_wet 3 (some .int) (k2_rm 1 20) [.ref r_o] ([(r_o, z_o 6 [.ref r_Atext, z_i r_typed, .ref r_Atold, .ref r_Adraft, .ref r_Abegun, .ref r_As, .ref r_Apast, z_i r_known, .ref r_Aimages, z_i r_kept, .ref r_Arings, z_i r_rung, z_i r_at, .ref r_Astates, .ref r_Aheld, .ref r_Ahere, .ref r_Athere]), (r_Atext, z_a G.2.1 200 r_text), (r_Atold, z_a G.2.1 39 r_told), (r_Adraft, z_a G.2.1 39 r_draft), (r_Abegun, z_a G.2.1 73 r_begun), (r_As, z_a G.2.1 73 r_s), (r_Apast, z_a G.2.1 584 r_past), (r_Aimages, z_a G.2.1 146 r_images), (r_Arings, z_a G.2.1 6 r_rings), (r_Astates, z_a G.2.1 36 r_states), (r_Aheld, z_a G.2.1 73 r_held), (r_Ahere, z_a G.2.2.2.2 36 r_here), (r_Athere, z_a G.2.2.2.2 36 r_there)]) 0 0 (fun v w => v = some (z_i rr) ∧ w = [(r_o, z_o 6 [.ref r_Atext, z_i r_typed, .ref r_Atold, .ref r_Adraft, .ref r_Abegun, .ref r_As, .ref r_Apast, z_i r_known, .ref r_Aimages, z_i r_kept, .ref r_Arings, z_i r_rung, z_i r_at, .ref r_Astates, .ref r_Aheld, .ref r_Ahere, .ref r_Athere]), (r_Atext, z_a G.2.1 200 r_text), (r_Atold, z_a G.2.1 39 r_told), (r_Adraft, z_a G.2.1 39 r_draft), (r_Abegun, z_a G.2.1 73 r_begun), (r_As, z_a G.2.1 73 r_s), (r_Apast, z_a G.2.1 584 r_past), (r_Aimages, z_a G.2.1 146 r_images), (r_Arings, z_a G.2.1 6 r_rings), (r_Astates, z_a G.2.1 36 r_states), (r_Aheld, z_a G.2.1 73 r_held), (r_Ahere, z_a G.2.2.2.2 36 r_here), (r_Athere, z_a G.2.2.2.2 36 r_there)] ∧ z_n rr ∧ True) := by
  unfold m_X6_wet at hm
  refine z_M.intro (by decide +kernel) (Nat.le_of_ble_eq_true rfl) (L := [(0, .ref r_o)]) rfl (fun X C E => ?_)
  refine z_iconst C dX6_wet_0 ?_
  refine z_istore_n C dX6_wet_1 (by decide) (L' := [(1, z_i 0), (0, .ref r_o)]) rfl ?_
  refine z_iconst C dX6_wet_2 ?_
  refine z_istore_n C dX6_wet_3 (by decide) (L' := [(2, z_i 0), (1, z_i 0), (0, .ref r_o)]) rfl ?_
  obtain ⟨o1_1, hl, hm⟩ := z_b1s hm
  have JX1 : z_n o1_1 → z_J X 0 0 ([(r_o, z_o 6 [.ref r_Atext, z_i r_typed, .ref r_Atold, .ref r_Adraft, .ref r_Abegun, .ref r_As, .ref r_Apast, z_i r_known, .ref r_Aimages, z_i r_kept, .ref r_Arings, z_i r_rung, z_i r_at, .ref r_Astates, .ref r_Aheld, .ref r_Ahere, .ref r_Athere]), (r_Atext, z_a G.2.1 200 r_text), (r_Atold, z_a G.2.1 39 r_told), (r_Adraft, z_a G.2.1 39 r_draft), (r_Abegun, z_a G.2.1 73 r_begun), (r_As, z_a G.2.1 73 r_s), (r_Apast, z_a G.2.1 584 r_past), (r_Aimages, z_a G.2.1 146 r_images), (r_Arings, z_a G.2.1 6 r_rings), (r_Astates, z_a G.2.1 36 r_states), (r_Aheld, z_a G.2.1 73 r_held), (r_Ahere, z_a G.2.2.2.2 36 r_here), (r_Athere, z_a G.2.2.2.2 36 r_there)]) [(1, z_i o1_1)] 35 [] := by
    intro h_o1_1
    clear hl
    refine z_iload_n C dX6_wet_35 0 rfl ?_
    cases hm
    exact z_iret C E dX6_wet_36 ⟨rfl, rfl, h_o1_1, trivial⟩
  clear hm
  have L1 : ∀ (n1 : Nat) (v1_1 : Int) (v2_1 : Int), z_n v1_1 → z_n v2_1 → m_X6_wet_l1 N r_told r_s n1 v1_1 v2_1 = some (o1_1) → z_J X 0 0 ([(r_o, z_o 6 [.ref r_Atext, z_i r_typed, .ref r_Atold, .ref r_Adraft, .ref r_Abegun, .ref r_As, .ref r_Apast, z_i r_known, .ref r_Aimages, z_i r_kept, .ref r_Arings, z_i r_rung, z_i r_at, .ref r_Astates, .ref r_Aheld, .ref r_Ahere, .ref r_Athere]), (r_Atext, z_a G.2.1 200 r_text), (r_Atold, z_a G.2.1 39 r_told), (r_Adraft, z_a G.2.1 39 r_draft), (r_Abegun, z_a G.2.1 73 r_begun), (r_As, z_a G.2.1 73 r_s), (r_Apast, z_a G.2.1 584 r_past), (r_Aimages, z_a G.2.1 146 r_images), (r_Arings, z_a G.2.1 6 r_rings), (r_Astates, z_a G.2.1 36 r_states), (r_Aheld, z_a G.2.1 73 r_held), (r_Ahere, z_a G.2.2.2.2 36 r_here), (r_Athere, z_a G.2.2.2.2 36 r_there)]) [(0, .ref r_o), (1, z_i v1_1), (2, z_i v2_1)] 4 [] := by
    clear hl
    intro n1
    induction n1 with
    | zero =>
      intro v1_1 v2_1 h_v1_1 h_v2_1 hm
      rw [m_X6_wet_l1] at hm
      cases hm
    | succ n1 ih1 =>
      intro v1_1 v2_1 h_v1_1 h_v2_1 hm
      rw [m_X6_wet_l1] at hm
      refine z_iload_n C dX6_wet_4 2 rfl ?_
      refine z_aload_n C dX6_wet_5 0 rfl ?_
      obtain ⟨r1, k2, hm⟩ := z_b1s hm
      refine z_callVid C (k_X6_cells l G N r_o r_Atext r_Atold r_Adraft r_Abegun r_As r_Apast r_Aimages r_Arings r_Astates r_Aheld r_Ahere r_Athere r_text r_typed r_told r_draft r_begun r_s r_past r_known r_images r_kept r_rings r_rung r_at r_states r_held r_here r_there h_r_text h_r_typed h_r_told h_r_draft h_r_begun h_r_s h_r_past h_r_known h_r_images h_r_kept h_r_rings h_r_rung h_r_at h_r_states h_r_held h_r_here h_r_there r1 k2) zv_X6_cells zl_X6_53 dX6_wet_6 rfl 0 rfl rfl rfl [z_i v2_1] rfl (Nat.le_of_ble_eq_true rfl) ⟨Nat.le_of_ble_eq_true rfl, Nat.le_of_ble_eq_true rfl⟩ ⟨rfl, rfl⟩ ⟨Nat.zero_le _, Nat.zero_le _⟩ (fun hF => ?_)
      obtain ⟨h_r1, -⟩ := hF
      refine z_icmp_ge (tgt := 35) C h_v2_1 h_r1 dX6_wet_9 (by decide) (fun c3 => ?_) (fun c3 => ?_)
      · have hm := z_pos c3 hm
        refine z_sub (L' := [(1, z_i v1_1)]) [1] rfl ?_
        cases hm
        exact JX1 h_v1_1
      · have hm := z_neg c3 hm
        refine z_iload_n C dX6_wet_12 1 rfl ?_
        refine z_aload_n C dX6_wet_13 0 rfl ?_
        refine z_get C zf_X6_22 dX6_wet_14 0 rfl rfl ?_
        refine z_iload_n C dX6_wet_17 2 rfl ?_
        obtain ⟨c4, hm⟩ := z_chk_some hm
        refine z_iald C dX6_wet_18 5 rfl c4 h_v2_1 ?_
        refine z_if_le (tgt := 26) C (h_r_s _) dX6_wet_19 (by decide) (fun c5 => ?_) (fun c5 => ?_)
        · have hm := z_pos c5 hm
          refine z_iconst C dX6_wet_26 ?_
          obtain ⟨c6, hm⟩ := z_chk_some hm
          refine z_iadd C dX6_wet_27 ?_
          refine z_istore_n C dX6_wet_28 (by decide) (L' := [(1, z_i (v1_1 + 0)), (0, .ref r_o), (2, z_i v2_1)]) rfl ?_
          obtain ⟨c7, hm⟩ := z_chk_some hm
          refine z_iinc C dX6_wet_29 2 rfl (by decide) (L' := [(2, z_i (v2_1 + 1)), (1, z_i (v1_1 + 0)), (0, .ref r_o)]) rfl ?_
          refine z_goto (tgt := 4) C dX6_wet_32 (by decide) ?_
          refine z_sub (L' := [(0, .ref r_o), (1, z_i (v1_1 + 0)), (2, z_i (v2_1 + 1))]) [2, 1, 0] rfl ?_
          exact ih1 (v1_1 + 0) (v2_1 + 1) c6 c7 hm
        · have hm := z_neg c5 hm
          refine z_iconst C dX6_wet_22 ?_
          refine z_goto (tgt := 27) C dX6_wet_23 (by decide) ?_
          obtain ⟨c8, hm⟩ := z_chk_some hm
          refine z_iadd C dX6_wet_27 ?_
          refine z_istore_n C dX6_wet_28 (by decide) (L' := [(1, z_i (v1_1 + 1)), (0, .ref r_o), (2, z_i v2_1)]) rfl ?_
          obtain ⟨c9, hm⟩ := z_chk_some hm
          refine z_iinc C dX6_wet_29 2 rfl (by decide) (L' := [(2, z_i (v2_1 + 1)), (1, z_i (v1_1 + 1)), (0, .ref r_o)]) rfl ?_
          refine z_goto (tgt := 4) C dX6_wet_32 (by decide) ?_
          refine z_sub (L' := [(0, .ref r_o), (1, z_i (v1_1 + 1)), (2, z_i (v2_1 + 1))]) [2, 1, 0] rfl ?_
          exact ih1 (v1_1 + 1) (v2_1 + 1) c8 c9 hm
  refine z_sub (L' := [(0, .ref r_o), (1, z_i 0), (2, z_i 0)]) [2, 1, 0] rfl ?_
  exact L1 N 0 0 (z_k 0 rfl) (z_k 0 rfl) hl
set_option maxRecDepth 100000 in
theorem k_X6_common (l : Launch) (G : z_G) (N : Nat) (x0 : Int) (x1 : Int) (h_x0 : z_n x0) (h_x1 : z_n x1) (rr : Int) (hm : m_X6_common N x0 x1 = some (rr)) : z_M l G yX6_common cX6_common 5 (some .int) (k2_rm 0 0) [z_i x0, z_i x1] ([]) 0 0 (fun v w => v = some (z_i rr) ∧ w = [] ∧ z_n rr ∧ True) := by
  unfold m_X6_common at hm
  refine z_M.intro (by decide +kernel) (Nat.le_of_ble_eq_true rfl) (L := [(0, z_i x0), (1, z_i x1)]) rfl (fun X C E => ?_)
  refine z_iload_n C dX6_common_0 0 rfl ?_
  refine z_istore_n C dX6_common_1 (by decide) (L' := [(2, z_i x0), (0, z_i x0), (1, z_i x1)]) rfl ?_
  refine z_iload_n C dX6_common_2 2 rfl ?_
  refine z_istore_n C dX6_common_3 (by decide) (L' := [(3, z_i x1), (2, z_i x0), (0, z_i x0), (1, z_i x1)]) rfl ?_
  obtain ⟨o2_1, hl, hm⟩ := z_b1s hm
  have JX1 : z_n o2_1 → z_J X 0 0 ([]) [(2, z_i o2_1)] 21 [] := by
    intro h_o2_1
    clear hl
    refine z_iload_n C dX6_common_21 0 rfl ?_
    cases hm
    exact z_iret C E dX6_common_22 ⟨rfl, rfl, h_o2_1, trivial⟩
  clear hm
  have L1 : ∀ (n1 : Nat) (v2_1 : Int) (v3_1 : Int), z_n v2_1 → z_n v3_1 → m_X6_common_l1 N n1 v2_1 v3_1 = some (o2_1) → z_J X 0 0 ([]) [(2, z_i v2_1), (3, z_i v3_1)] 4 [] := by
    clear hl
    intro n1
    induction n1 with
    | zero =>
      intro v2_1 v3_1 h_v2_1 h_v3_1 hm
      rw [m_X6_common_l1] at hm
      cases hm
    | succ n1 ih1 =>
      intro v2_1 v3_1 h_v2_1 h_v3_1 hm
      rw [m_X6_common_l1] at hm
      refine z_iload_n C dX6_common_4 1 rfl ?_
      refine z_if_le (tgt := 21) C h_v3_1 dX6_common_5 (by decide) (fun c1 => ?_) (fun c1 => ?_)
      · have hm := z_pos c1 hm
        refine z_sub (L' := [(2, z_i v2_1)]) [0] rfl ?_
        cases hm
        exact JX1 h_v2_1
      · have hm := z_neg c1 hm
        refine z_iload_n C dX6_common_8 0 rfl ?_
        refine z_iload_n C dX6_common_9 1 rfl ?_
        obtain ⟨c2, hm⟩ := z_chk_some hm
        obtain ⟨c3, hm⟩ := z_chk_some hm
        refine z_irem C h_v2_1 h_v3_1 c2 dX6_common_10 ?_
        refine z_istore C dX6_common_11 (by decide) (L' := [(4, z_i (Int.tmod v2_1 v3_1)), (2, z_i v2_1), (3, z_i v3_1)]) rfl ?_
        refine z_iload_n C dX6_common_13 2 rfl ?_
        refine z_istore_n C dX6_common_14 (by decide) (L' := [(2, z_i v3_1), (4, z_i (Int.tmod v2_1 v3_1)), (3, z_i v3_1)]) rfl ?_
        refine z_iload C dX6_common_15 1 rfl ?_
        refine z_istore_n C dX6_common_17 (by decide) (L' := [(3, z_i (Int.tmod v2_1 v3_1)), (2, z_i v3_1), (4, z_i (Int.tmod v2_1 v3_1))]) rfl ?_
        refine z_goto (tgt := 4) C dX6_common_18 (by decide) ?_
        refine z_sub (L' := [(2, z_i v3_1), (3, z_i (Int.tmod v2_1 v3_1))]) [1, 0] rfl ?_
        exact ih1 v3_1 (Int.tmod v2_1 v3_1) h_v3_1 c3 hm
  refine z_sub (L' := [(2, z_i x0), (3, z_i x1)]) [1, 0] rfl ?_
  exact L1 N x0 x1 h_x0 h_x1 hl
set_option maxRecDepth 100000 in
theorem k_X6_sky (l : Launch) (G : z_G) (N : Nat) (r_o r_Atext r_Atold r_Adraft r_Abegun r_As r_Apast r_Aimages r_Arings r_Astates r_Aheld r_Ahere r_Athere : Nat) (r_text : (Int → Int)) (r_typed : Int) (r_told : (Int → Int)) (r_draft : (Int → Int)) (r_begun : (Int → Int)) (r_s : (Int → Int)) (r_past : (Int → Int)) (r_known : Int) (r_images : (Int → Int)) (r_kept : Int) (r_rings : (Int → Int)) (r_rung : Int) (r_at : Int) (r_states : (Int → Int)) (r_held : (Int → Int)) (r_here : (Int → Int)) (r_there : (Int → Int)) (x1 : Int) (x2 : Int) (h_r_text : z_r r_text) (h_r_typed : z_n r_typed) (h_r_told : z_r r_told) (h_r_draft : z_r r_draft) (h_r_begun : z_r r_begun) (h_r_s : z_r r_s) (h_r_past : z_r r_past) (h_r_known : z_n r_known) (h_r_images : z_r r_images) (h_r_kept : z_n r_kept) (h_r_rings : z_r r_rings) (h_r_rung : z_n r_rung) (h_r_at : z_n r_at) (h_r_states : z_r r_states) (h_r_held : z_r r_held) (h_r_here : z_r r_here) (h_r_there : z_r r_there) (h_x1 : z_n x1) (h_x2 : z_n x2) (rr : Int) (q_r_states : (Int → Int)) (hm : m_X6_sky N r_told r_s r_states x1 x2 = some (rr, q_r_states)) : z_M l G yX6_sky cX6_sky 6 (some .int) (k2_rm 4 92) [.ref r_o, z_i x1, z_i x2] ([(r_o, z_o 6 [.ref r_Atext, z_i r_typed, .ref r_Atold, .ref r_Adraft, .ref r_Abegun, .ref r_As, .ref r_Apast, z_i r_known, .ref r_Aimages, z_i r_kept, .ref r_Arings, z_i r_rung, z_i r_at, .ref r_Astates, .ref r_Aheld, .ref r_Ahere, .ref r_Athere]), (r_Atext, z_a G.2.1 200 r_text), (r_Atold, z_a G.2.1 39 r_told), (r_Adraft, z_a G.2.1 39 r_draft), (r_Abegun, z_a G.2.1 73 r_begun), (r_As, z_a G.2.1 73 r_s), (r_Apast, z_a G.2.1 584 r_past), (r_Aimages, z_a G.2.1 146 r_images), (r_Arings, z_a G.2.1 6 r_rings), (r_Astates, z_a G.2.1 36 r_states), (r_Aheld, z_a G.2.1 73 r_held), (r_Ahere, z_a G.2.2.2.2 36 r_here), (r_Athere, z_a G.2.2.2.2 36 r_there)]) 0 0 (fun v w => v = some (z_i rr) ∧ w = [(r_o, z_o 6 [.ref r_Atext, z_i r_typed, .ref r_Atold, .ref r_Adraft, .ref r_Abegun, .ref r_As, .ref r_Apast, z_i r_known, .ref r_Aimages, z_i r_kept, .ref r_Arings, z_i r_rung, z_i r_at, .ref r_Astates, .ref r_Aheld, .ref r_Ahere, .ref r_Athere]), (r_Atext, z_a G.2.1 200 r_text), (r_Atold, z_a G.2.1 39 r_told), (r_Adraft, z_a G.2.1 39 r_draft), (r_Abegun, z_a G.2.1 73 r_begun), (r_As, z_a G.2.1 73 r_s), (r_Apast, z_a G.2.1 584 r_past), (r_Aimages, z_a G.2.1 146 r_images), (r_Arings, z_a G.2.1 6 r_rings), (r_Astates, z_a G.2.1 36 q_r_states), (r_Aheld, z_a G.2.1 73 r_held), (r_Ahere, z_a G.2.2.2.2 36 r_here), (r_Athere, z_a G.2.2.2.2 36 r_there)] ∧ z_n rr ∧ z_r q_r_states ∧ True) := by
  unfold m_X6_sky at hm
  refine z_M.intro (by decide +kernel) (Nat.le_of_ble_eq_true rfl) (L := [(0, .ref r_o), (1, z_i x1), (2, z_i x2)]) rfl (fun X C E => ?_)
  refine z_aload_n C dX6_sky_0 0 rfl ?_
  refine z_iload_n C dX6_sky_1 1 rfl ?_
  obtain ⟨r1, k2, hm⟩ := z_b1s hm
  refine z_callVid C (k_X6_isCell l G N r_o r_Atext r_Atold r_Adraft r_Abegun r_As r_Apast r_Aimages r_Arings r_Astates r_Aheld r_Ahere r_Athere r_text r_typed r_told r_draft r_begun r_s r_past r_known r_images r_kept r_rings r_rung r_at r_states r_held r_here r_there x1 h_r_text h_r_typed h_r_told h_r_draft h_r_begun h_r_s h_r_past h_r_known h_r_images h_r_kept h_r_rings h_r_rung h_r_at h_r_states h_r_held h_r_here h_r_there h_x1 r1 k2) zv_X6_isCell zl_X6_98 dX6_sky_2 rfl 0 rfl rfl rfl [] rfl (Nat.le_of_ble_eq_true rfl) ⟨Nat.le_of_ble_eq_true rfl, Nat.le_of_ble_eq_true rfl⟩ ⟨rfl, rfl⟩ ⟨Nat.zero_le _, Nat.zero_le _⟩ (fun hF => ?_)
  obtain ⟨hb_r1, -⟩ := hF
  refine z_if_eq (tgt := 17) C (z_n01 hb_r1) dX6_sky_5 (by decide) (fun c3 => ?_) (fun c3 => ?_)
  · have hm := z_pos c3 hm
    refine z_iconst C dX6_sky_17 ?_
    cases hm
    exact z_iret C E dX6_sky_18 ⟨rfl, rfl, (z_k (-1) rfl), h_r_states, trivial⟩
  · have hm := z_neg c3 hm
    refine z_iload_n C dX6_sky_8 2 rfl ?_
    refine z_iconst C dX6_sky_9 ?_
    refine z_iconst C dX6_sky_10 ?_
    obtain ⟨r4, k5, hm⟩ := z_b1s hm
    refine z_callSi C (k_X6_in l G N x2 0 1 h_x2 (z_k 0 rfl) (z_k 1 rfl) r4 k5) zs_X6_in zl_X6_57 dX6_sky_11 [] rfl rfl rfl (ws' := [(r_o, z_o 6 [.ref r_Atext, z_i r_typed, .ref r_Atold, .ref r_Adraft, .ref r_Abegun, .ref r_As, .ref r_Apast, z_i r_known, .ref r_Aimages, z_i r_kept, .ref r_Arings, z_i r_rung, z_i r_at, .ref r_Astates, .ref r_Aheld, .ref r_Ahere, .ref r_Athere]), (r_Atext, z_a G.2.1 200 r_text), (r_Atold, z_a G.2.1 39 r_told), (r_Adraft, z_a G.2.1 39 r_draft), (r_Abegun, z_a G.2.1 73 r_begun), (r_As, z_a G.2.1 73 r_s), (r_Apast, z_a G.2.1 584 r_past), (r_Aimages, z_a G.2.1 146 r_images), (r_Arings, z_a G.2.1 6 r_rings), (r_Astates, z_a G.2.1 36 r_states), (r_Aheld, z_a G.2.1 73 r_held), (r_Ahere, z_a G.2.2.2.2 36 r_here), (r_Athere, z_a G.2.2.2.2 36 r_there)]) rfl rfl [] rfl (Nat.le_of_ble_eq_true rfl) ⟨Nat.le_of_ble_eq_true rfl, Nat.le_of_ble_eq_true rfl⟩ ⟨rfl, rfl⟩ ⟨Nat.zero_le _, Nat.zero_le _⟩ (fun hF => ?_)
    obtain ⟨hb_r4, -⟩ := hF
    refine z_if_ne (tgt := 19) C (z_n01 hb_r4) dX6_sky_14 (by decide) (fun c6 => ?_) (fun c6 => ?_)
    · have hm := z_pos c6 hm
      refine z_aload_n C dX6_sky_19 0 rfl ?_
      obtain ⟨r_states_7, k8, hm⟩ := z_b1s hm
      refine z_callVvd C (k_X6_laysStates l G N r_o r_Atext r_Atold r_Adraft r_Abegun r_As r_Apast r_Aimages r_Arings r_Astates r_Aheld r_Ahere r_Athere r_text r_typed r_told r_draft r_begun r_s r_past r_known r_images r_kept r_rings r_rung r_at r_states r_held r_here r_there h_r_text h_r_typed h_r_told h_r_draft h_r_begun h_r_s h_r_past h_r_known h_r_images h_r_kept h_r_rings h_r_rung h_r_at h_r_states h_r_held h_r_here h_r_there r_states_7 k8) zv_X6_laysStates zl_X6_118 dX6_sky_20 rfl 0 rfl rfl rfl [] rfl (Nat.le_of_ble_eq_true rfl) ⟨Nat.le_of_ble_eq_true rfl, Nat.le_of_ble_eq_true rfl⟩ ⟨rfl, rfl⟩ ⟨Nat.zero_le _, Nat.zero_le _⟩ (fun hF => ?_)
      obtain ⟨h_r_states_7, -⟩ := hF
      refine z_aload_n C dX6_sky_23 0 rfl ?_
      refine z_get C zf_X6_34 dX6_sky_24 0 rfl rfl ?_
      refine z_iload_n C dX6_sky_27 1 rfl ?_
      obtain ⟨c9, hm⟩ := z_chk_some hm
      refine z_iald C dX6_sky_28 9 rfl c9 h_x1 ?_
      refine z_if_ge (tgt := 35) C (h_r_states_7 _) dX6_sky_29 (by decide) (fun c10 => ?_) (fun c10 => ?_)
      · have hm := z_pos c10 hm
        refine z_aload_n C dX6_sky_35 0 rfl ?_
        refine z_aload_n C dX6_sky_36 0 rfl ?_
        refine z_get C zf_X6_34 dX6_sky_37 0 rfl rfl ?_
        refine z_iload_n C dX6_sky_40 1 rfl ?_
        obtain ⟨c11, hm⟩ := z_chk_some hm
        refine z_iald C dX6_sky_41 9 rfl c11 h_x1 ?_
        obtain ⟨r12, k13, hm⟩ := z_b1s hm
        refine z_callVid C (k_X6_sizeOf l G N r_o r_Atext r_Atold r_Adraft r_Abegun r_As r_Apast r_Aimages r_Arings r_Astates r_Aheld r_Ahere r_Athere r_text r_typed r_told r_draft r_begun r_s r_past r_known r_images r_kept r_rings r_rung r_at r_states_7 r_held r_here r_there (r_states_7 x1) h_r_text h_r_typed h_r_told h_r_draft h_r_begun h_r_s h_r_past h_r_known h_r_images h_r_kept h_r_rings h_r_rung h_r_at h_r_states_7 h_r_held h_r_here h_r_there (h_r_states_7 _) r12 k13) zv_X6_sizeOf zl_X6_121 dX6_sky_42 rfl 0 rfl rfl rfl [] rfl (Nat.le_of_ble_eq_true rfl) ⟨Nat.le_of_ble_eq_true rfl, Nat.le_of_ble_eq_true rfl⟩ ⟨rfl, rfl⟩ ⟨Nat.zero_le _, Nat.zero_le _⟩ (fun hF => ?_)
        obtain ⟨h_r12, -⟩ := hF
        refine z_istore_n C dX6_sky_45 (by decide) (L' := [(3, z_i r12), (0, .ref r_o), (1, z_i x1), (2, z_i x2)]) rfl ?_
        refine z_aload_n C dX6_sky_46 1 rfl ?_
        obtain ⟨r14, k15, hm⟩ := z_b1s hm
        refine z_callVid C (k_X6_wet l G N r_o r_Atext r_Atold r_Adraft r_Abegun r_As r_Apast r_Aimages r_Arings r_Astates r_Aheld r_Ahere r_Athere r_text r_typed r_told r_draft r_begun r_s r_past r_known r_images r_kept r_rings r_rung r_at r_states_7 r_held r_here r_there h_r_text h_r_typed h_r_told h_r_draft h_r_begun h_r_s h_r_past h_r_known h_r_images h_r_kept h_r_rings h_r_rung h_r_at h_r_states_7 h_r_held h_r_here h_r_there r14 k15) zv_X6_wet zl_X6_153 dX6_sky_47 rfl 0 rfl rfl rfl [] rfl (Nat.le_of_ble_eq_true rfl) ⟨Nat.le_of_ble_eq_true rfl, Nat.le_of_ble_eq_true rfl⟩ ⟨rfl, rfl⟩ ⟨Nat.zero_le _, Nat.zero_le _⟩ (fun hF => ?_)
        obtain ⟨h_r14, -⟩ := hF
        refine z_istore C dX6_sky_50 (by decide) (L' := [(4, z_i r14), (3, z_i r12), (0, .ref r_o), (1, z_i x1), (2, z_i x2)]) rfl ?_
        refine z_iload_n C dX6_sky_52 1 rfl ?_
        refine z_iload C dX6_sky_53 0 rfl ?_
        obtain ⟨r16, k17, hm⟩ := z_b1s hm
        refine z_callSi C (k_X6_common l G N r12 r14 h_r12 h_r14 r16 k17) zs_X6_common zl_X6_156 dX6_sky_55 [] rfl rfl rfl (ws' := [(r_o, z_o 6 [.ref r_Atext, z_i r_typed, .ref r_Atold, .ref r_Adraft, .ref r_Abegun, .ref r_As, .ref r_Apast, z_i r_known, .ref r_Aimages, z_i r_kept, .ref r_Arings, z_i r_rung, z_i r_at, .ref r_Astates, .ref r_Aheld, .ref r_Ahere, .ref r_Athere]), (r_Atext, z_a G.2.1 200 r_text), (r_Atold, z_a G.2.1 39 r_told), (r_Adraft, z_a G.2.1 39 r_draft), (r_Abegun, z_a G.2.1 73 r_begun), (r_As, z_a G.2.1 73 r_s), (r_Apast, z_a G.2.1 584 r_past), (r_Aimages, z_a G.2.1 146 r_images), (r_Arings, z_a G.2.1 6 r_rings), (r_Astates, z_a G.2.1 36 r_states_7), (r_Aheld, z_a G.2.1 73 r_held), (r_Ahere, z_a G.2.2.2.2 36 r_here), (r_Athere, z_a G.2.2.2.2 36 r_there)]) rfl rfl [] rfl (Nat.le_of_ble_eq_true rfl) ⟨Nat.le_of_ble_eq_true rfl, Nat.le_of_ble_eq_true rfl⟩ ⟨rfl, rfl⟩ ⟨Nat.zero_le _, Nat.zero_le _⟩ (fun hF => ?_)
        obtain ⟨h_r16, -⟩ := hF
        refine z_istore C dX6_sky_58 (by decide) (L' := [(5, z_i r16), (4, z_i r14), (3, z_i r12), (0, .ref r_o), (1, z_i x1), (2, z_i x2)]) rfl ?_
        refine z_iload_n C dX6_sky_60 5 rfl ?_
        refine z_if_ne (tgt := 71) C h_x2 dX6_sky_61 (by decide) (fun c18 => ?_) (fun c18 => ?_)
        · have hm := z_pos c18 hm
          refine z_iload C dX6_sky_71 1 rfl ?_
          refine z_iload C dX6_sky_73 0 rfl ?_
          obtain ⟨c19, hm⟩ := z_chk_some hm
          obtain ⟨c20, hm⟩ := z_chk_some hm
          refine z_idiv C h_r14 h_r16 c19 dX6_sky_75 ?_
          cases hm
          exact z_iret C E dX6_sky_76 ⟨rfl, rfl, c20, h_r_states_7, trivial⟩
        · have hm := z_neg c18 hm
          refine z_iload_n C dX6_sky_64 2 rfl ?_
          refine z_iload C dX6_sky_65 0 rfl ?_
          obtain ⟨c21, hm⟩ := z_chk_some hm
          obtain ⟨c22, hm⟩ := z_chk_some hm
          refine z_idiv C h_r12 h_r16 c21 dX6_sky_67 ?_
          refine z_goto (tgt := 76) C dX6_sky_68 (by decide) ?_
          cases hm
          exact z_iret C E dX6_sky_76 ⟨rfl, rfl, c22, h_r_states_7, trivial⟩
      · have hm := z_neg c10 hm
        refine z_bipush C dX6_sky_32 (by decide) ?_
        cases hm
        exact z_iret C E dX6_sky_34 ⟨rfl, rfl, (z_k (-4) rfl), h_r_states_7, trivial⟩
    · have hm := z_neg c6 hm
      refine z_iconst C dX6_sky_17 ?_
      cases hm
      exact z_iret C E dX6_sky_18 ⟨rfl, rfl, (z_k (-1) rfl), h_r_states, trivial⟩
