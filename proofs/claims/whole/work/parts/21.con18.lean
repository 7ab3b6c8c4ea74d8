set_option maxRecDepth 100000 in
theorem k_X6_readsItem (l : Launch) (G : z_G) (N : Nat) (r_o r_Atext r_Atold r_Adraft r_Abegun r_As r_Apast r_Aimages r_Arings r_Astates r_Aheld r_Ahere r_Athere : Nat) (r_text : (Int → Int)) (r_typed : Int) (r_told : (Int → Int)) (r_draft : (Int → Int)) (r_begun : (Int → Int)) (r_s : (Int → Int)) (r_past : (Int → Int)) (r_known : Int) (r_images : (Int → Int)) (r_kept : Int) (r_rings : (Int → Int)) (r_rung : Int) (r_at : Int) (r_states : (Int → Int)) (r_held : (Int → Int)) (r_here : (Int → Int)) (r_there : (Int → Int)) (x1 : Int) (h_r_text : z_r r_text) (h_r_typed : z_n r_typed) (h_r_told : z_r r_told) (h_r_draft : z_r r_draft) (h_r_begun : z_r r_begun) (h_r_s : z_r r_s) (h_r_past : z_r r_past) (h_r_known : z_n r_known) (h_r_images : z_r r_images) (h_r_kept : z_n r_kept) (h_r_rings : z_r r_rings) (h_r_rung : z_n r_rung) (h_r_at : z_n r_at) (h_r_states : z_r r_states) (h_r_held : z_r r_held) (h_r_here : z_r r_here) (h_r_there : z_r r_there) (h_x1 : z_n x1) (rr : Int) (q_r_draft : (Int → Int)) (q_r_begun : (Int → Int)) (q_r_at : Int) (hm : m_X6_readsItem N r_text r_typed r_draft r_begun r_at x1 = some (rr, q_r_draft, q_r_begun, q_r_at)) : z_M l G yX6_readsItem cX6_readsItem 4 (some .boolean) (k2_rm 3 67) [.ref r_o, z_i x1] ([(r_o, z_o 6 [.ref r_Atext, z_i r_typed, .ref r_Atold, .ref r_Adraft, .ref r_Abegun, .ref r_As, .ref r_Apast, z_i r_known, .ref r_Aimages, z_i r_kept, .ref r_Arings, z_i r_rung, z_i r_at, .ref r_Astates, .ref r_Aheld, .ref r_Ahere, .ref r_Athere]), (r_Atext, z_a G.2.1 200 r_text), (r_Atold, z_a G.2.1 39 r_told), (r_Adraft, z_a G.2.1 39 r_draft), (r_Abegun, z_a G.2.1 73 r_begun), (r_As, z_a G.2.1 73 r_s), (r_Apast, z_a G.2.1 584 r_past), (r_Aimages, z_a G.2.1 146 r_images), (r_Arings, z_a G.2.1 6 r_rings), (r_Astates, z_a G.2.1 36 r_states), (r_Aheld, z_a G.2.1 73 r_held), (r_Ahere, z_a G.2.2.2.2 36 r_here), (r_Athere, z_a G.2.2.2.2 36 r_there)]) 0 0 (fun v w => v = some (z_i rr) ∧ w = [(r_o, z_o 6 [.ref r_Atext, z_i r_typed, .ref r_Atold, .ref r_Adraft, .ref r_Abegun, .ref r_As, .ref r_Apast, z_i r_known, .ref r_Aimages, z_i r_kept, .ref r_Arings, z_i r_rung, z_i q_r_at, .ref r_Astates, .ref r_Aheld, .ref r_Ahere, .ref r_Athere]), (r_Atext, z_a G.2.1 200 r_text), (r_Atold, z_a G.2.1 39 r_told), (r_Adraft, z_a G.2.1 39 q_r_draft), (r_Abegun, z_a G.2.1 73 q_r_begun), (r_As, z_a G.2.1 73 r_s), (r_Apast, z_a G.2.1 584 r_past), (r_Aimages, z_a G.2.1 146 r_images), (r_Arings, z_a G.2.1 6 r_rings), (r_Astates, z_a G.2.1 36 r_states), (r_Aheld, z_a G.2.1 73 r_held), (r_Ahere, z_a G.2.2.2.2 36 r_here), (r_Athere, z_a G.2.2.2.2 36 r_there)] ∧ (rr = 0 ∨ rr = 1) ∧ z_r q_r_draft ∧ z_r q_r_begun ∧ z_n q_r_at ∧ True) := by
  unfold m_X6_readsItem at hm
  refine z_M.intro (by decide +kernel) (Nat.le_of_ble_eq_true rfl) (L := [(0, .ref r_o), (1, z_i x1)]) rfl (fun X C E => ?_)
  refine z_iload_n C dX6_readsItem_0 1 rfl ?_
  refine z_bipush C dX6_readsItem_1 (by decide) ?_
  refine z_icmp_ne (tgt := 67) C h_x1 (z_k 115 rfl) dX6_readsItem_3 (by decide) (fun c1 => ?_) (fun c1 => ?_)
  · have hm := z_pos c1 hm
    refine z_aload_n C dX6_readsItem_67 0 rfl ?_
    refine z_get C zf_X6_16 dX6_readsItem_68 0 rfl rfl ?_
    refine z_iconst C dX6_readsItem_71 ?_
    refine z_iconst C dX6_readsItem_72 ?_
    obtain ⟨c2, hm⟩ := z_chk_some hm
    refine z_iast C dX6_readsItem_73 3 rfl c2 (z_k 2 rfl) (ws' := [(r_o, z_o 6 [.ref r_Atext, z_i r_typed, .ref r_Atold, .ref r_Adraft, .ref r_Abegun, .ref r_As, .ref r_Apast, z_i r_known, .ref r_Aimages, z_i r_kept, .ref r_Arings, z_i r_rung, z_i r_at, .ref r_Astates, .ref r_Aheld, .ref r_Ahere, .ref r_Athere]), (r_Atext, z_a G.2.1 200 r_text), (r_Atold, z_a G.2.1 39 r_told), (r_Adraft, z_a G.2.1 39 (z_up r_draft 2 1)), (r_Abegun, z_a G.2.1 73 r_begun), (r_As, z_a G.2.1 73 r_s), (r_Apast, z_a G.2.1 584 r_past), (r_Aimages, z_a G.2.1 146 r_images), (r_Arings, z_a G.2.1 6 r_rings), (r_Astates, z_a G.2.1 36 r_states), (r_Aheld, z_a G.2.1 73 r_held), (r_Ahere, z_a G.2.2.2.2 36 r_here), (r_Athere, z_a G.2.2.2.2 36 r_there)]) rfl ?_
    refine z_iload_n C dX6_readsItem_74 1 rfl ?_
    refine z_bipush C dX6_readsItem_75 (by decide) ?_
    refine z_icmp_eq (tgt := 94) C h_x1 (z_k 104 rfl) dX6_readsItem_77 (by decide) (fun c3 => ?_) (fun c3 => ?_)
    · have hm := z_pos c3 hm
      refine z_aload_n C dX6_readsItem_94 0 rfl ?_
      refine z_iconst C dX6_readsItem_95 ?_
      refine z_aload_n C dX6_readsItem_96 0 rfl ?_
      refine z_get C zf_X6_16 dX6_readsItem_97 0 rfl rfl ?_
      refine z_iconst C dX6_readsItem_100 ?_
      obtain ⟨c4, hm⟩ := z_chk_some hm
      refine z_iald C dX6_readsItem_101 3 rfl c4 (z_k 0 rfl) ?_
      refine z_aload_n C dX6_readsItem_102 0 rfl ?_
      refine z_get C zf_X6_16 dX6_readsItem_103 0 rfl rfl ?_
      refine z_iconst C dX6_readsItem_106 ?_
      obtain ⟨c5, hm⟩ := z_chk_some hm
      refine z_iald C dX6_readsItem_107 3 rfl c5 (z_k 1 rfl) ?_
      obtain ⟨c6, hm⟩ := z_chk_some hm
      refine z_imul C dX6_readsItem_108 ?_
      refine z_iconst C dX6_readsItem_109 ?_
      obtain ⟨c7, hm⟩ := z_chk_some hm
      refine z_isub C dX6_readsItem_110 ?_
      refine z_bipush C dX6_readsItem_111 (by decide) ?_
      obtain ⟨r8, r_at_9, k10, hm⟩ := z_b2s hm
      refine z_callVid C (k_X6_number l G N r_o r_Atext r_Atold r_Adraft r_Abegun r_As r_Apast r_Aimages r_Arings r_Astates r_Aheld r_Ahere r_Athere r_text r_typed r_told (z_up r_draft 2 1) r_begun r_s r_past r_known r_images r_kept r_rings r_rung r_at r_states r_held r_here r_there 0 ((((z_up r_draft 2 1) 0) * ((z_up r_draft 2 1) 1)) - 1) 44 h_r_text h_r_typed h_r_told (z_r_up h_r_draft (z_k 1 rfl)) h_r_begun h_r_s h_r_past h_r_known h_r_images h_r_kept h_r_rings h_r_rung h_r_at h_r_states h_r_held h_r_here h_r_there (z_k 0 rfl) c7 (z_k 44 rfl) r8 r_at_9 k10) zv_X6_number zl_X6_76 dX6_readsItem_113 rfl 0 rfl rfl rfl [] rfl (Nat.le_of_ble_eq_true rfl) ⟨Nat.le_of_ble_eq_true rfl, Nat.le_of_ble_eq_true rfl⟩ ⟨rfl, rfl⟩ ⟨Nat.zero_le _, Nat.zero_le _⟩ (fun hF => ?_)
      obtain ⟨h_r8, h_r_at_9, -⟩ := hF
      refine z_istore_n C dX6_readsItem_116 (by decide) (L' := [(2, z_i r8), (0, .ref r_o), (1, z_i x1)]) rfl ?_
      refine z_iload_n C dX6_readsItem_117 0 rfl ?_
      obtain ⟨s18, r_at_19, hj, hm⟩ := z_b2s hm
      have J20 : z_n s18 → z_n r_at_19 → z_J X 0 0 ([(r_o, z_o 6 [.ref r_Atext, z_i r_typed, .ref r_Atold, .ref r_Adraft, .ref r_Abegun, .ref r_As, .ref r_Apast, z_i r_known, .ref r_Aimages, z_i r_kept, .ref r_Arings, z_i r_rung, z_i r_at_19, .ref r_Astates, .ref r_Aheld, .ref r_Ahere, .ref r_Athere]), (r_Atext, z_a G.2.1 200 r_text), (r_Atold, z_a G.2.1 39 r_told), (r_Adraft, z_a G.2.1 39 (z_up r_draft 2 1)), (r_Abegun, z_a G.2.1 73 r_begun), (r_As, z_a G.2.1 73 r_s), (r_Apast, z_a G.2.1 584 r_past), (r_Aimages, z_a G.2.1 146 r_images), (r_Arings, z_a G.2.1 6 r_rings), (r_Astates, z_a G.2.1 36 r_states), (r_Aheld, z_a G.2.1 73 r_held), (r_Ahere, z_a G.2.2.2.2 36 r_here), (r_Athere, z_a G.2.2.2.2 36 r_there)]) [(0, .ref r_o), (1, z_i x1), (2, z_i r8)] 144 [z_i s18] := by
        intro h_s18 h_r_at_19
        clear hj
        refine z_istore_n C dX6_readsItem_144 (by decide) (L' := [(3, z_i s18), (0, .ref r_o), (1, z_i x1), (2, z_i r8)]) rfl ?_
        refine z_iload_n C dX6_readsItem_145 0 rfl ?_
        refine z_if_ge (tgt := 151) C h_s18 dX6_readsItem_146 (by decide) (fun c21 => ?_) (fun c21 => ?_)
        · have hm := z_pos c21 hm
          refine z_iload_n C dX6_readsItem_151 2 rfl ?_
          refine z_bipush C dX6_readsItem_152 (by decide) ?_
          refine z_icmp_ne (tgt := 170) C h_x1 (z_k 104 rfl) dX6_readsItem_154 (by decide) (fun c22 => ?_) (fun c22 => ?_)
          · have hm := z_pos c22 hm
            refine z_iload_n C dX6_readsItem_170 2 rfl ?_
            refine z_bipush C dX6_readsItem_171 (by decide) ?_
            refine z_icmp_ne (tgt := 188) C h_x1 (z_k 107 rfl) dX6_readsItem_173 (by decide) (fun c23 => ?_) (fun c23 => ?_)
            · have hm := z_pos c23 hm
              refine z_aload_n C dX6_readsItem_188 1 rfl ?_
              refine z_get C zf_X6_19 dX6_readsItem_189 0 rfl rfl ?_
              refine z_iload_n C dX6_readsItem_192 3 rfl ?_
              refine z_iload_n C dX6_readsItem_193 0 rfl ?_
              obtain ⟨c24, hm⟩ := z_chk_some hm
              refine z_iast C dX6_readsItem_194 4 rfl c24 h_r8 (ws' := [(r_o, z_o 6 [.ref r_Atext, z_i r_typed, .ref r_Atold, .ref r_Adraft, .ref r_Abegun, .ref r_As, .ref r_Apast, z_i r_known, .ref r_Aimages, z_i r_kept, .ref r_Arings, z_i r_rung, z_i r_at_19, .ref r_Astates, .ref r_Aheld, .ref r_Ahere, .ref r_Athere]), (r_Atext, z_a G.2.1 200 r_text), (r_Atold, z_a G.2.1 39 r_told), (r_Adraft, z_a G.2.1 39 (z_up r_draft 2 1)), (r_Abegun, z_a G.2.1 73 (z_up r_begun r8 s18)), (r_As, z_a G.2.1 73 r_s), (r_Apast, z_a G.2.1 584 r_past), (r_Aimages, z_a G.2.1 146 r_images), (r_Arings, z_a G.2.1 6 r_rings), (r_Astates, z_a G.2.1 36 r_states), (r_Aheld, z_a G.2.1 73 r_held), (r_Ahere, z_a G.2.2.2.2 36 r_here), (r_Athere, z_a G.2.2.2.2 36 r_there)]) rfl ?_
              refine z_iconst C dX6_readsItem_195 ?_
              cases hm
              exact z_zret C E (Or.inr rfl) dX6_readsItem_196 ⟨rfl, rfl, (Or.inr rfl), (z_r_up h_r_draft (z_k 1 rfl)), (z_r_up h_r_begun h_s18), h_r_at_19, trivial⟩
            · have hm := z_neg c23 hm
              refine z_aload_n C dX6_readsItem_176 1 rfl ?_
              refine z_get C zf_X6_16 dX6_readsItem_177 0 rfl rfl ?_
              refine z_iconst C dX6_readsItem_180 ?_
              refine z_iload_n C dX6_readsItem_181 3 rfl ?_
              obtain ⟨c25, hm⟩ := z_chk_some hm
              refine z_iadd C dX6_readsItem_182 ?_
              refine z_iload_n C dX6_readsItem_183 0 rfl ?_
              obtain ⟨c26, hm⟩ := z_chk_some hm
              refine z_iast C dX6_readsItem_184 3 rfl c26 c25 (ws' := [(r_o, z_o 6 [.ref r_Atext, z_i r_typed, .ref r_Atold, .ref r_Adraft, .ref r_Abegun, .ref r_As, .ref r_Apast, z_i r_known, .ref r_Aimages, z_i r_kept, .ref r_Arings, z_i r_rung, z_i r_at_19, .ref r_Astates, .ref r_Aheld, .ref r_Ahere, .ref r_Athere]), (r_Atext, z_a G.2.1 200 r_text), (r_Atold, z_a G.2.1 39 r_told), (r_Adraft, z_a G.2.1 39 (z_up (z_up r_draft 2 1) (3 + r8) s18)), (r_Abegun, z_a G.2.1 73 r_begun), (r_As, z_a G.2.1 73 r_s), (r_Apast, z_a G.2.1 584 r_past), (r_Aimages, z_a G.2.1 146 r_images), (r_Arings, z_a G.2.1 6 r_rings), (r_Astates, z_a G.2.1 36 r_states), (r_Aheld, z_a G.2.1 73 r_held), (r_Ahere, z_a G.2.2.2.2 36 r_here), (r_Athere, z_a G.2.2.2.2 36 r_there)]) rfl ?_
              refine z_goto (tgt := 195) C dX6_readsItem_185 (by decide) ?_
              refine z_iconst C dX6_readsItem_195 ?_
              cases hm
              exact z_zret C E (Or.inr rfl) dX6_readsItem_196 ⟨rfl, rfl, (Or.inr rfl), (z_r_up (z_r_up h_r_draft (z_k 1 rfl)) h_s18), h_r_begun, h_r_at_19, trivial⟩
          · have hm := z_neg c22 hm
            refine z_aload_n C dX6_readsItem_157 1 rfl ?_
            refine z_get C zf_X6_19 dX6_readsItem_158 0 rfl rfl ?_
            refine z_bipush C dX6_readsItem_161 (by decide) ?_
            refine z_iload_n C dX6_readsItem_163 3 rfl ?_
            obtain ⟨c27, hm⟩ := z_chk_some hm
            refine z_iadd C dX6_readsItem_164 ?_
            refine z_iload_n C dX6_readsItem_165 0 rfl ?_
            obtain ⟨c28, hm⟩ := z_chk_some hm
            refine z_iast C dX6_readsItem_166 4 rfl c28 c27 (ws' := [(r_o, z_o 6 [.ref r_Atext, z_i r_typed, .ref r_Atold, .ref r_Adraft, .ref r_Abegun, .ref r_As, .ref r_Apast, z_i r_known, .ref r_Aimages, z_i r_kept, .ref r_Arings, z_i r_rung, z_i r_at_19, .ref r_Astates, .ref r_Aheld, .ref r_Ahere, .ref r_Athere]), (r_Atext, z_a G.2.1 200 r_text), (r_Atold, z_a G.2.1 39 r_told), (r_Adraft, z_a G.2.1 39 (z_up r_draft 2 1)), (r_Abegun, z_a G.2.1 73 (z_up r_begun (36 + r8) s18)), (r_As, z_a G.2.1 73 r_s), (r_Apast, z_a G.2.1 584 r_past), (r_Aimages, z_a G.2.1 146 r_images), (r_Arings, z_a G.2.1 6 r_rings), (r_Astates, z_a G.2.1 36 r_states), (r_Aheld, z_a G.2.1 73 r_held), (r_Ahere, z_a G.2.2.2.2 36 r_here), (r_Athere, z_a G.2.2.2.2 36 r_there)]) rfl ?_
            refine z_goto (tgt := 195) C dX6_readsItem_167 (by decide) ?_
            refine z_iconst C dX6_readsItem_195 ?_
            cases hm
            exact z_zret C E (Or.inr rfl) dX6_readsItem_196 ⟨rfl, rfl, (Or.inr rfl), (z_r_up h_r_draft (z_k 1 rfl)), (z_r_up h_r_begun h_s18), h_r_at_19, trivial⟩
        · have hm := z_neg c21 hm
          refine z_iconst C dX6_readsItem_149 ?_
          cases hm
          exact z_zret C E (Or.inl rfl) dX6_readsItem_150 ⟨rfl, rfl, (Or.inl rfl), (z_r_up h_r_draft (z_k 1 rfl)), h_r_begun, h_r_at_19, trivial⟩
      replace hm := hj
      clear hj
      refine z_if_ge (tgt := 125) C h_r8 dX6_readsItem_118 (by decide) (fun c11 => ?_) (fun c11 => ?_)
      · have hm := z_pos c11 hm
        refine z_aload_n C dX6_readsItem_125 1 rfl ?_
        refine z_iconst C dX6_readsItem_126 ?_
        refine z_iload_n C dX6_readsItem_127 2 rfl ?_
        refine z_bipush C dX6_readsItem_128 (by decide) ?_
        obtain ⟨s13, hj, hm⟩ := z_b1s hm
        have J14 : z_n s13 → z_J X 0 0 ([(r_o, z_o 6 [.ref r_Atext, z_i r_typed, .ref r_Atold, .ref r_Adraft, .ref r_Abegun, .ref r_As, .ref r_Apast, z_i r_known, .ref r_Aimages, z_i r_kept, .ref r_Arings, z_i r_rung, z_i r_at_9, .ref r_Astates, .ref r_Aheld, .ref r_Ahere, .ref r_Athere]), (r_Atext, z_a G.2.1 200 r_text), (r_Atold, z_a G.2.1 39 r_told), (r_Adraft, z_a G.2.1 39 (z_up r_draft 2 1)), (r_Abegun, z_a G.2.1 73 r_begun), (r_As, z_a G.2.1 73 r_s), (r_Apast, z_a G.2.1 584 r_past), (r_Aimages, z_a G.2.1 146 r_images), (r_Arings, z_a G.2.1 6 r_rings), (r_Astates, z_a G.2.1 36 r_states), (r_Aheld, z_a G.2.1 73 r_held), (r_Ahere, z_a G.2.2.2.2 36 r_here), (r_Athere, z_a G.2.2.2.2 36 r_there)]) [(0, .ref r_o), (1, z_i x1), (2, z_i r8)] 139 [z_i s13, z_i 0, .ref r_o] := by
          intro h_s13
          clear hj
          refine z_bipush C dX6_readsItem_139 (by decide) ?_
          obtain ⟨r15, r_at_16, k17, hm⟩ := z_b2s hm
          refine z_callVid C (k_X6_number l G N r_o r_Atext r_Atold r_Adraft r_Abegun r_As r_Apast r_Aimages r_Arings r_Astates r_Aheld r_Ahere r_Athere r_text r_typed r_told (z_up r_draft 2 1) r_begun r_s r_past r_known r_images r_kept r_rings r_rung r_at_9 r_states r_held r_here r_there 0 s13 59 h_r_text h_r_typed h_r_told (z_r_up h_r_draft (z_k 1 rfl)) h_r_begun h_r_s h_r_past h_r_known h_r_images h_r_kept h_r_rings h_r_rung h_r_at_9 h_r_states h_r_held h_r_here h_r_there (z_k 0 rfl) h_s13 (z_k 59 rfl) r15 r_at_16 k17) zv_X6_number zl_X6_76 dX6_readsItem_141 rfl 0 rfl rfl rfl [] rfl (Nat.le_of_ble_eq_true rfl) ⟨Nat.le_of_ble_eq_true rfl, Nat.le_of_ble_eq_true rfl⟩ ⟨rfl, rfl⟩ ⟨Nat.zero_le _, Nat.zero_le _⟩ (fun hF => ?_)
          obtain ⟨h_r15, h_r_at_16, -⟩ := hF
          cases hm
          exact J20 h_r15 h_r_at_16
        replace hm := hj
        clear hj
        refine z_icmp_ne (tgt := 137) C h_x1 (z_k 107 rfl) dX6_readsItem_130 (by decide) (fun c12 => ?_) (fun c12 => ?_)
        · have hm := z_pos c12 hm
          refine z_bipush C dX6_readsItem_137 (by decide) ?_
          refine z_sub (L' := [(0, .ref r_o), (1, z_i x1), (2, z_i r8)]) [1, 2, 0] rfl ?_
          cases hm
          exact J14 (z_k 20 rfl)
        · have hm := z_neg c12 hm
          refine z_iconst C dX6_readsItem_133 ?_
          refine z_goto (tgt := 139) C dX6_readsItem_134 (by decide) ?_
          refine z_sub (L' := [(0, .ref r_o), (1, z_i x1), (2, z_i r8)]) [1, 2, 0] rfl ?_
          cases hm
          exact J14 (z_k 4 rfl)
      · have hm := z_neg c11 hm
        refine z_iconst C dX6_readsItem_121 ?_
        refine z_goto (tgt := 144) C dX6_readsItem_122 (by decide) ?_
        refine z_sub (L' := [(0, .ref r_o), (1, z_i x1), (2, z_i r8)]) [1, 2, 0] rfl ?_
        cases hm
        exact J20 (z_k (-1) rfl) h_r_at_9
    · have hm := z_neg c3 hm
      refine z_iload_n C dX6_readsItem_80 1 rfl ?_
      refine z_bipush C dX6_readsItem_81 (by decide) ?_
      refine z_icmp_eq (tgt := 94) C h_x1 (z_k 107 rfl) dX6_readsItem_83 (by decide) (fun c29 => ?_) (fun c29 => ?_)
      · have hm := z_pos c29 hm
        refine z_aload_n C dX6_readsItem_94 0 rfl ?_
        refine z_iconst C dX6_readsItem_95 ?_
        refine z_aload_n C dX6_readsItem_96 0 rfl ?_
        refine z_get C zf_X6_16 dX6_readsItem_97 0 rfl rfl ?_
        refine z_iconst C dX6_readsItem_100 ?_
        obtain ⟨c30, hm⟩ := z_chk_some hm
        refine z_iald C dX6_readsItem_101 3 rfl c30 (z_k 0 rfl) ?_
        refine z_aload_n C dX6_readsItem_102 0 rfl ?_
        refine z_get C zf_X6_16 dX6_readsItem_103 0 rfl rfl ?_
        refine z_iconst C dX6_readsItem_106 ?_
        obtain ⟨c31, hm⟩ := z_chk_some hm
        refine z_iald C dX6_readsItem_107 3 rfl c31 (z_k 1 rfl) ?_
        obtain ⟨c32, hm⟩ := z_chk_some hm
        refine z_imul C dX6_readsItem_108 ?_
        refine z_iconst C dX6_readsItem_109 ?_
        obtain ⟨c33, hm⟩ := z_chk_some hm
        refine z_isub C dX6_readsItem_110 ?_
        refine z_bipush C dX6_readsItem_111 (by decide) ?_
        obtain ⟨r34, r_at_35, k36, hm⟩ := z_b2s hm
        refine z_callVid C (k_X6_number l G N r_o r_Atext r_Atold r_Adraft r_Abegun r_As r_Apast r_Aimages r_Arings r_Astates r_Aheld r_Ahere r_Athere r_text r_typed r_told (z_up r_draft 2 1) r_begun r_s r_past r_known r_images r_kept r_rings r_rung r_at r_states r_held r_here r_there 0 ((((z_up r_draft 2 1) 0) * ((z_up r_draft 2 1) 1)) - 1) 44 h_r_text h_r_typed h_r_told (z_r_up h_r_draft (z_k 1 rfl)) h_r_begun h_r_s h_r_past h_r_known h_r_images h_r_kept h_r_rings h_r_rung h_r_at h_r_states h_r_held h_r_here h_r_there (z_k 0 rfl) c33 (z_k 44 rfl) r34 r_at_35 k36) zv_X6_number zl_X6_76 dX6_readsItem_113 rfl 0 rfl rfl rfl [] rfl (Nat.le_of_ble_eq_true rfl) ⟨Nat.le_of_ble_eq_true rfl, Nat.le_of_ble_eq_true rfl⟩ ⟨rfl, rfl⟩ ⟨Nat.zero_le _, Nat.zero_le _⟩ (fun hF => ?_)
        obtain ⟨h_r34, h_r_at_35, -⟩ := hF
        refine z_istore_n C dX6_readsItem_116 (by decide) (L' := [(2, z_i r34), (0, .ref r_o), (1, z_i x1)]) rfl ?_
        refine z_iload_n C dX6_readsItem_117 0 rfl ?_
        obtain ⟨s44, r_at_45, hj, hm⟩ := z_b2s hm
        have J46 : z_n s44 → z_n r_at_45 → z_J X 0 0 ([(r_o, z_o 6 [.ref r_Atext, z_i r_typed, .ref r_Atold, .ref r_Adraft, .ref r_Abegun, .ref r_As, .ref r_Apast, z_i r_known, .ref r_Aimages, z_i r_kept, .ref r_Arings, z_i r_rung, z_i r_at_45, .ref r_Astates, .ref r_Aheld, .ref r_Ahere, .ref r_Athere]), (r_Atext, z_a G.2.1 200 r_text), (r_Atold, z_a G.2.1 39 r_told), (r_Adraft, z_a G.2.1 39 (z_up r_draft 2 1)), (r_Abegun, z_a G.2.1 73 r_begun), (r_As, z_a G.2.1 73 r_s), (r_Apast, z_a G.2.1 584 r_past), (r_Aimages, z_a G.2.1 146 r_images), (r_Arings, z_a G.2.1 6 r_rings), (r_Astates, z_a G.2.1 36 r_states), (r_Aheld, z_a G.2.1 73 r_held), (r_Ahere, z_a G.2.2.2.2 36 r_here), (r_Athere, z_a G.2.2.2.2 36 r_there)]) [(0, .ref r_o), (1, z_i x1), (2, z_i r34)] 144 [z_i s44] := by
          intro h_s44 h_r_at_45
          clear hj
          refine z_istore_n C dX6_readsItem_144 (by decide) (L' := [(3, z_i s44), (0, .ref r_o), (1, z_i x1), (2, z_i r34)]) rfl ?_
          refine z_iload_n C dX6_readsItem_145 0 rfl ?_
          refine z_if_ge (tgt := 151) C h_s44 dX6_readsItem_146 (by decide) (fun c47 => ?_) (fun c47 => ?_)
          · have hm := z_pos c47 hm
            refine z_iload_n C dX6_readsItem_151 2 rfl ?_
            refine z_bipush C dX6_readsItem_152 (by decide) ?_
            refine z_icmp_ne (tgt := 170) C h_x1 (z_k 104 rfl) dX6_readsItem_154 (by decide) (fun c48 => ?_) (fun c48 => ?_)
            · have hm := z_pos c48 hm
              refine z_iload_n C dX6_readsItem_170 2 rfl ?_
              refine z_bipush C dX6_readsItem_171 (by decide) ?_
              refine z_icmp_ne (tgt := 188) C h_x1 (z_k 107 rfl) dX6_readsItem_173 (by decide) (fun c49 => ?_) (fun c49 => ?_)
              · have hm := z_pos c49 hm
                refine z_aload_n C dX6_readsItem_188 1 rfl ?_
                refine z_get C zf_X6_19 dX6_readsItem_189 0 rfl rfl ?_
                refine z_iload_n C dX6_readsItem_192 3 rfl ?_
                refine z_iload_n C dX6_readsItem_193 0 rfl ?_
                obtain ⟨c50, hm⟩ := z_chk_some hm
                refine z_iast C dX6_readsItem_194 4 rfl c50 h_r34 (ws' := [(r_o, z_o 6 [.ref r_Atext, z_i r_typed, .ref r_Atold, .ref r_Adraft, .ref r_Abegun, .ref r_As, .ref r_Apast, z_i r_known, .ref r_Aimages, z_i r_kept, .ref r_Arings, z_i r_rung, z_i r_at_45, .ref r_Astates, .ref r_Aheld, .ref r_Ahere, .ref r_Athere]), (r_Atext, z_a G.2.1 200 r_text), (r_Atold, z_a G.2.1 39 r_told), (r_Adraft, z_a G.2.1 39 (z_up r_draft 2 1)), (r_Abegun, z_a G.2.1 73 (z_up r_begun r34 s44)), (r_As, z_a G.2.1 73 r_s), (r_Apast, z_a G.2.1 584 r_past), (r_Aimages, z_a G.2.1 146 r_images), (r_Arings, z_a G.2.1 6 r_rings), (r_Astates, z_a G.2.1 36 r_states), (r_Aheld, z_a G.2.1 73 r_held), (r_Ahere, z_a G.2.2.2.2 36 r_here), (r_Athere, z_a G.2.2.2.2 36 r_there)]) rfl ?_
                refine z_iconst C dX6_readsItem_195 ?_
                cases hm
                exact z_zret C E (Or.inr rfl) dX6_readsItem_196 ⟨rfl, rfl, (Or.inr rfl), (z_r_up h_r_draft (z_k 1 rfl)), (z_r_up h_r_begun h_s44), h_r_at_45, trivial⟩
              · have hm := z_neg c49 hm
                refine z_aload_n C dX6_readsItem_176 1 rfl ?_
                refine z_get C zf_X6_16 dX6_readsItem_177 0 rfl rfl ?_
                refine z_iconst C dX6_readsItem_180 ?_
                refine z_iload_n C dX6_readsItem_181 3 rfl ?_
                obtain ⟨c51, hm⟩ := z_chk_some hm
                refine z_iadd C dX6_readsItem_182 ?_
                refine z_iload_n C dX6_readsItem_183 0 rfl ?_
                obtain ⟨c52, hm⟩ := z_chk_some hm
                refine z_iast C dX6_readsItem_184 3 rfl c52 c51 (ws' := [(r_o, z_o 6 [.ref r_Atext, z_i r_typed, .ref r_Atold, .ref r_Adraft, .ref r_Abegun, .ref r_As, .ref r_Apast, z_i r_known, .ref r_Aimages, z_i r_kept, .ref r_Arings, z_i r_rung, z_i r_at_45, .ref r_Astates, .ref r_Aheld, .ref r_Ahere, .ref r_Athere]), (r_Atext, z_a G.2.1 200 r_text), (r_Atold, z_a G.2.1 39 r_told), (r_Adraft, z_a G.2.1 39 (z_up (z_up r_draft 2 1) (3 + r34) s44)), (r_Abegun, z_a G.2.1 73 r_begun), (r_As, z_a G.2.1 73 r_s), (r_Apast, z_a G.2.1 584 r_past), (r_Aimages, z_a G.2.1 146 r_images), (r_Arings, z_a G.2.1 6 r_rings), (r_Astates, z_a G.2.1 36 r_states), (r_Aheld, z_a G.2.1 73 r_held), (r_Ahere, z_a G.2.2.2.2 36 r_here), (r_Athere, z_a G.2.2.2.2 36 r_there)]) rfl ?_
                refine z_goto (tgt := 195) C dX6_readsItem_185 (by decide) ?_
                refine z_iconst C dX6_readsItem_195 ?_
                cases hm
                exact z_zret C E (Or.inr rfl) dX6_readsItem_196 ⟨rfl, rfl, (Or.inr rfl), (z_r_up (z_r_up h_r_draft (z_k 1 rfl)) h_s44), h_r_begun, h_r_at_45, trivial⟩
            · have hm := z_neg c48 hm
              refine z_aload_n C dX6_readsItem_157 1 rfl ?_
              refine z_get C zf_X6_19 dX6_readsItem_158 0 rfl rfl ?_
              refine z_bipush C dX6_readsItem_161 (by decide) ?_
              refine z_iload_n C dX6_readsItem_163 3 rfl ?_
              obtain ⟨c53, hm⟩ := z_chk_some hm
              refine z_iadd C dX6_readsItem_164 ?_
              refine z_iload_n C dX6_readsItem_165 0 rfl ?_
              obtain ⟨c54, hm⟩ := z_chk_some hm
              refine z_iast C dX6_readsItem_166 4 rfl c54 c53 (ws' := [(r_o, z_o 6 [.ref r_Atext, z_i r_typed, .ref r_Atold, .ref r_Adraft, .ref r_Abegun, .ref r_As, .ref r_Apast, z_i r_known, .ref r_Aimages, z_i r_kept, .ref r_Arings, z_i r_rung, z_i r_at_45, .ref r_Astates, .ref r_Aheld, .ref r_Ahere, .ref r_Athere]), (r_Atext, z_a G.2.1 200 r_text), (r_Atold, z_a G.2.1 39 r_told), (r_Adraft, z_a G.2.1 39 (z_up r_draft 2 1)), (r_Abegun, z_a G.2.1 73 (z_up r_begun (36 + r34) s44)), (r_As, z_a G.2.1 73 r_s), (r_Apast, z_a G.2.1 584 r_past), (r_Aimages, z_a G.2.1 146 r_images), (r_Arings, z_a G.2.1 6 r_rings), (r_Astates, z_a G.2.1 36 r_states), (r_Aheld, z_a G.2.1 73 r_held), (r_Ahere, z_a G.2.2.2.2 36 r_here), (r_Athere, z_a G.2.2.2.2 36 r_there)]) rfl ?_
              refine z_goto (tgt := 195) C dX6_readsItem_167 (by decide) ?_
              refine z_iconst C dX6_readsItem_195 ?_
              cases hm
              exact z_zret C E (Or.inr rfl) dX6_readsItem_196 ⟨rfl, rfl, (Or.inr rfl), (z_r_up h_r_draft (z_k 1 rfl)), (z_r_up h_r_begun h_s44), h_r_at_45, trivial⟩
          · have hm := z_neg c47 hm
            refine z_iconst C dX6_readsItem_149 ?_
            cases hm
            exact z_zret C E (Or.inl rfl) dX6_readsItem_150 ⟨rfl, rfl, (Or.inl rfl), (z_r_up h_r_draft (z_k 1 rfl)), h_r_begun, h_r_at_45, trivial⟩
        replace hm := hj
        clear hj
        refine z_if_ge (tgt := 125) C h_r34 dX6_readsItem_118 (by decide) (fun c37 => ?_) (fun c37 => ?_)
        · have hm := z_pos c37 hm
          refine z_aload_n C dX6_readsItem_125 1 rfl ?_
          refine z_iconst C dX6_readsItem_126 ?_
          refine z_iload_n C dX6_readsItem_127 2 rfl ?_
          refine z_bipush C dX6_readsItem_128 (by decide) ?_
          obtain ⟨s39, hj, hm⟩ := z_b1s hm
          have J40 : z_n s39 → z_J X 0 0 ([(r_o, z_o 6 [.ref r_Atext, z_i r_typed, .ref r_Atold, .ref r_Adraft, .ref r_Abegun, .ref r_As, .ref r_Apast, z_i r_known, .ref r_Aimages, z_i r_kept, .ref r_Arings, z_i r_rung, z_i r_at_35, .ref r_Astates, .ref r_Aheld, .ref r_Ahere, .ref r_Athere]), (r_Atext, z_a G.2.1 200 r_text), (r_Atold, z_a G.2.1 39 r_told), (r_Adraft, z_a G.2.1 39 (z_up r_draft 2 1)), (r_Abegun, z_a G.2.1 73 r_begun), (r_As, z_a G.2.1 73 r_s), (r_Apast, z_a G.2.1 584 r_past), (r_Aimages, z_a G.2.1 146 r_images), (r_Arings, z_a G.2.1 6 r_rings), (r_Astates, z_a G.2.1 36 r_states), (r_Aheld, z_a G.2.1 73 r_held), (r_Ahere, z_a G.2.2.2.2 36 r_here), (r_Athere, z_a G.2.2.2.2 36 r_there)]) [(0, .ref r_o), (1, z_i x1), (2, z_i r34)] 139 [z_i s39, z_i 0, .ref r_o] := by
            intro h_s39
            clear hj
            refine z_bipush C dX6_readsItem_139 (by decide) ?_
            obtain ⟨r41, r_at_42, k43, hm⟩ := z_b2s hm
            refine z_callVid C (k_X6_number l G N r_o r_Atext r_Atold r_Adraft r_Abegun r_As r_Apast r_Aimages r_Arings r_Astates r_Aheld r_Ahere r_Athere r_text r_typed r_told (z_up r_draft 2 1) r_begun r_s r_past r_known r_images r_kept r_rings r_rung r_at_35 r_states r_held r_here r_there 0 s39 59 h_r_text h_r_typed h_r_told (z_r_up h_r_draft (z_k 1 rfl)) h_r_begun h_r_s h_r_past h_r_known h_r_images h_r_kept h_r_rings h_r_rung h_r_at_35 h_r_states h_r_held h_r_here h_r_there (z_k 0 rfl) h_s39 (z_k 59 rfl) r41 r_at_42 k43) zv_X6_number zl_X6_76 dX6_readsItem_141 rfl 0 rfl rfl rfl [] rfl (Nat.le_of_ble_eq_true rfl) ⟨Nat.le_of_ble_eq_true rfl, Nat.le_of_ble_eq_true rfl⟩ ⟨rfl, rfl⟩ ⟨Nat.zero_le _, Nat.zero_le _⟩ (fun hF => ?_)
            obtain ⟨h_r41, h_r_at_42, -⟩ := hF
            cases hm
            exact J46 h_r41 h_r_at_42
          replace hm := hj
          clear hj
          refine z_icmp_ne (tgt := 137) C h_x1 (z_k 107 rfl) dX6_readsItem_130 (by decide) (fun c38 => ?_) (fun c38 => ?_)
          · have hm := z_pos c38 hm
            refine z_bipush C dX6_readsItem_137 (by decide) ?_
            refine z_sub (L' := [(0, .ref r_o), (1, z_i x1), (2, z_i r34)]) [1, 2, 0] rfl ?_
            cases hm
            exact J40 (z_k 20 rfl)
          · have hm := z_neg c38 hm
            refine z_iconst C dX6_readsItem_133 ?_
            refine z_goto (tgt := 139) C dX6_readsItem_134 (by decide) ?_
            refine z_sub (L' := [(0, .ref r_o), (1, z_i x1), (2, z_i r34)]) [1, 2, 0] rfl ?_
            cases hm
            exact J40 (z_k 4 rfl)
        · have hm := z_neg c37 hm
          refine z_iconst C dX6_readsItem_121 ?_
          refine z_goto (tgt := 144) C dX6_readsItem_122 (by decide) ?_
          refine z_sub (L' := [(0, .ref r_o), (1, z_i x1), (2, z_i r34)]) [1, 2, 0] rfl ?_
          cases hm
          exact J46 (z_k (-1) rfl) h_r_at_35
      · have hm := z_neg c29 hm
        refine z_iload_n C dX6_readsItem_86 1 rfl ?_
        refine z_bipush C dX6_readsItem_87 (by decide) ?_
        refine z_icmp_eq (tgt := 94) C h_x1 (z_k 119 rfl) dX6_readsItem_89 (by decide) (fun c55 => ?_) (fun c55 => ?_)
        · have hm := z_pos c55 hm
          refine z_aload_n C dX6_readsItem_94 0 rfl ?_
          refine z_iconst C dX6_readsItem_95 ?_
          refine z_aload_n C dX6_readsItem_96 0 rfl ?_
          refine z_get C zf_X6_16 dX6_readsItem_97 0 rfl rfl ?_
          refine z_iconst C dX6_readsItem_100 ?_
          obtain ⟨c56, hm⟩ := z_chk_some hm
          refine z_iald C dX6_readsItem_101 3 rfl c56 (z_k 0 rfl) ?_
          refine z_aload_n C dX6_readsItem_102 0 rfl ?_
          refine z_get C zf_X6_16 dX6_readsItem_103 0 rfl rfl ?_
          refine z_iconst C dX6_readsItem_106 ?_
          obtain ⟨c57, hm⟩ := z_chk_some hm
          refine z_iald C dX6_readsItem_107 3 rfl c57 (z_k 1 rfl) ?_
          obtain ⟨c58, hm⟩ := z_chk_some hm
          refine z_imul C dX6_readsItem_108 ?_
          refine z_iconst C dX6_readsItem_109 ?_
          obtain ⟨c59, hm⟩ := z_chk_some hm
          refine z_isub C dX6_readsItem_110 ?_
          refine z_bipush C dX6_readsItem_111 (by decide) ?_
          obtain ⟨r60, r_at_61, k62, hm⟩ := z_b2s hm
          refine z_callVid C (k_X6_number l G N r_o r_Atext r_Atold r_Adraft r_Abegun r_As r_Apast r_Aimages r_Arings r_Astates r_Aheld r_Ahere r_Athere r_text r_typed r_told (z_up r_draft 2 1) r_begun r_s r_past r_known r_images r_kept r_rings r_rung r_at r_states r_held r_here r_there 0 ((((z_up r_draft 2 1) 0) * ((z_up r_draft 2 1) 1)) - 1) 44 h_r_text h_r_typed h_r_told (z_r_up h_r_draft (z_k 1 rfl)) h_r_begun h_r_s h_r_past h_r_known h_r_images h_r_kept h_r_rings h_r_rung h_r_at h_r_states h_r_held h_r_here h_r_there (z_k 0 rfl) c59 (z_k 44 rfl) r60 r_at_61 k62) zv_X6_number zl_X6_76 dX6_readsItem_113 rfl 0 rfl rfl rfl [] rfl (Nat.le_of_ble_eq_true rfl) ⟨Nat.le_of_ble_eq_true rfl, Nat.le_of_ble_eq_true rfl⟩ ⟨rfl, rfl⟩ ⟨Nat.zero_le _, Nat.zero_le _⟩ (fun hF => ?_)
          obtain ⟨h_r60, h_r_at_61, -⟩ := hF
          refine z_istore_n C dX6_readsItem_116 (by decide) (L' := [(2, z_i r60), (0, .ref r_o), (1, z_i x1)]) rfl ?_
          refine z_iload_n C dX6_readsItem_117 0 rfl ?_
          obtain ⟨s70, r_at_71, hj, hm⟩ := z_b2s hm
          have J72 : z_n s70 → z_n r_at_71 → z_J X 0 0 ([(r_o, z_o 6 [.ref r_Atext, z_i r_typed, .ref r_Atold, .ref r_Adraft, .ref r_Abegun, .ref r_As, .ref r_Apast, z_i r_known, .ref r_Aimages, z_i r_kept, .ref r_Arings, z_i r_rung, z_i r_at_71, .ref r_Astates, .ref r_Aheld, .ref r_Ahere, .ref r_Athere]), (r_Atext, z_a G.2.1 200 r_text), (r_Atold, z_a G.2.1 39 r_told), (r_Adraft, z_a G.2.1 39 (z_up r_draft 2 1)), (r_Abegun, z_a G.2.1 73 r_begun), (r_As, z_a G.2.1 73 r_s), (r_Apast, z_a G.2.1 584 r_past), (r_Aimages, z_a G.2.1 146 r_images), (r_Arings, z_a G.2.1 6 r_rings), (r_Astates, z_a G.2.1 36 r_states), (r_Aheld, z_a G.2.1 73 r_held), (r_Ahere, z_a G.2.2.2.2 36 r_here), (r_Athere, z_a G.2.2.2.2 36 r_there)]) [(0, .ref r_o), (1, z_i x1), (2, z_i r60)] 144 [z_i s70] := by
            intro h_s70 h_r_at_71
            clear hj
            refine z_istore_n C dX6_readsItem_144 (by decide) (L' := [(3, z_i s70), (0, .ref r_o), (1, z_i x1), (2, z_i r60)]) rfl ?_
            refine z_iload_n C dX6_readsItem_145 0 rfl ?_
            refine z_if_ge (tgt := 151) C h_s70 dX6_readsItem_146 (by decide) (fun c73 => ?_) (fun c73 => ?_)
            · have hm := z_pos c73 hm
              refine z_iload_n C dX6_readsItem_151 2 rfl ?_
              refine z_bipush C dX6_readsItem_152 (by decide) ?_
              refine z_icmp_ne (tgt := 170) C h_x1 (z_k 104 rfl) dX6_readsItem_154 (by decide) (fun c74 => ?_) (fun c74 => ?_)
              · have hm := z_pos c74 hm
                refine z_iload_n C dX6_readsItem_170 2 rfl ?_
                refine z_bipush C dX6_readsItem_171 (by decide) ?_
                refine z_icmp_ne (tgt := 188) C h_x1 (z_k 107 rfl) dX6_readsItem_173 (by decide) (fun c75 => ?_) (fun c75 => ?_)
                · have hm := z_pos c75 hm
                  refine z_aload_n C dX6_readsItem_188 1 rfl ?_
                  refine z_get C zf_X6_19 dX6_readsItem_189 0 rfl rfl ?_
                  refine z_iload_n C dX6_readsItem_192 3 rfl ?_
                  refine z_iload_n C dX6_readsItem_193 0 rfl ?_
                  obtain ⟨c76, hm⟩ := z_chk_some hm
                  refine z_iast C dX6_readsItem_194 4 rfl c76 h_r60 (ws' := [(r_o, z_o 6 [.ref r_Atext, z_i r_typed, .ref r_Atold, .ref r_Adraft, .ref r_Abegun, .ref r_As, .ref r_Apast, z_i r_known, .ref r_Aimages, z_i r_kept, .ref r_Arings, z_i r_rung, z_i r_at_71, .ref r_Astates, .ref r_Aheld, .ref r_Ahere, .ref r_Athere]), (r_Atext, z_a G.2.1 200 r_text), (r_Atold, z_a G.2.1 39 r_told), (r_Adraft, z_a G.2.1 39 (z_up r_draft 2 1)), (r_Abegun, z_a G.2.1 73 (z_up r_begun r60 s70)), (r_As, z_a G.2.1 73 r_s), (r_Apast, z_a G.2.1 584 r_past), (r_Aimages, z_a G.2.1 146 r_images), (r_Arings, z_a G.2.1 6 r_rings), (r_Astates, z_a G.2.1 36 r_states), (r_Aheld, z_a G.2.1 73 r_held), (r_Ahere, z_a G.2.2.2.2 36 r_here), (r_Athere, z_a G.2.2.2.2 36 r_there)]) rfl ?_
                  refine z_iconst C dX6_readsItem_195 ?_
                  cases hm
                  exact z_zret C E (Or.inr rfl) dX6_readsItem_196 ⟨rfl, rfl, (Or.inr rfl), (z_r_up h_r_draft (z_k 1 rfl)), (z_r_up h_r_begun h_s70), h_r_at_71, trivial⟩
                · have hm := z_neg c75 hm
                  refine z_aload_n C dX6_readsItem_176 1 rfl ?_
                  refine z_get C zf_X6_16 dX6_readsItem_177 0 rfl rfl ?_
                  refine z_iconst C dX6_readsItem_180 ?_
                  refine z_iload_n C dX6_readsItem_181 3 rfl ?_
                  obtain ⟨c77, hm⟩ := z_chk_some hm
                  refine z_iadd C dX6_readsItem_182 ?_
                  refine z_iload_n C dX6_readsItem_183 0 rfl ?_
                  obtain ⟨c78, hm⟩ := z_chk_some hm
                  refine z_iast C dX6_readsItem_184 3 rfl c78 c77 (ws' := [(r_o, z_o 6 [.ref r_Atext, z_i r_typed, .ref r_Atold, .ref r_Adraft, .ref r_Abegun, .ref r_As, .ref r_Apast, z_i r_known, .ref r_Aimages, z_i r_kept, .ref r_Arings, z_i r_rung, z_i r_at_71, .ref r_Astates, .ref r_Aheld, .ref r_Ahere, .ref r_Athere]), (r_Atext, z_a G.2.1 200 r_text), (r_Atold, z_a G.2.1 39 r_told), (r_Adraft, z_a G.2.1 39 (z_up (z_up r_draft 2 1) (3 + r60) s70)), (r_Abegun, z_a G.2.1 73 r_begun), (r_As, z_a G.2.1 73 r_s), (r_Apast, z_a G.2.1 584 r_past), (r_Aimages, z_a G.2.1 146 r_images), (r_Arings, z_a G.2.1 6 r_rings), (r_Astates, z_a G.2.1 36 r_states), (r_Aheld, z_a G.2.1 73 r_held), (r_Ahere, z_a G.2.2.2.2 36 r_here), (r_Athere, z_a G.2.2.2.2 36 r_there)]) rfl ?_
                  refine z_goto (tgt := 195) C dX6_readsItem_185 (by decide) ?_
                  refine z_iconst C dX6_readsItem_195 ?_
                  cases hm
                  exact z_zret C E (Or.inr rfl) dX6_readsItem_196 ⟨rfl, rfl, (Or.inr rfl), (z_r_up (z_r_up h_r_draft (z_k 1 rfl)) h_s70), h_r_begun, h_r_at_71, trivial⟩
              · have hm := z_neg c74 hm
                refine z_aload_n C dX6_readsItem_157 1 rfl ?_
                refine z_get C zf_X6_19 dX6_readsItem_158 0 rfl rfl ?_
                refine z_bipush C dX6_readsItem_161 (by decide) ?_
                refine z_iload_n C dX6_readsItem_163 3 rfl ?_
                obtain ⟨c79, hm⟩ := z_chk_some hm
                refine z_iadd C dX6_readsItem_164 ?_
                refine z_iload_n C dX6_readsItem_165 0 rfl ?_
                obtain ⟨c80, hm⟩ := z_chk_some hm
                refine z_iast C dX6_readsItem_166 4 rfl c80 c79 (ws' := [(r_o, z_o 6 [.ref r_Atext, z_i r_typed, .ref r_Atold, .ref r_Adraft, .ref r_Abegun, .ref r_As, .ref r_Apast, z_i r_known, .ref r_Aimages, z_i r_kept, .ref r_Arings, z_i r_rung, z_i r_at_71, .ref r_Astates, .ref r_Aheld, .ref r_Ahere, .ref r_Athere]), (r_Atext, z_a G.2.1 200 r_text), (r_Atold, z_a G.2.1 39 r_told), (r_Adraft, z_a G.2.1 39 (z_up r_draft 2 1)), (r_Abegun, z_a G.2.1 73 (z_up r_begun (36 + r60) s70)), (r_As, z_a G.2.1 73 r_s), (r_Apast, z_a G.2.1 584 r_past), (r_Aimages, z_a G.2.1 146 r_images), (r_Arings, z_a G.2.1 6 r_rings), (r_Astates, z_a G.2.1 36 r_states), (r_Aheld, z_a G.2.1 73 r_held), (r_Ahere, z_a G.2.2.2.2 36 r_here), (r_Athere, z_a G.2.2.2.2 36 r_there)]) rfl ?_
                refine z_goto (tgt := 195) C dX6_readsItem_167 (by decide) ?_
                refine z_iconst C dX6_readsItem_195 ?_
                cases hm
                exact z_zret C E (Or.inr rfl) dX6_readsItem_196 ⟨rfl, rfl, (Or.inr rfl), (z_r_up h_r_draft (z_k 1 rfl)), (z_r_up h_r_begun h_s70), h_r_at_71, trivial⟩
            · have hm := z_neg c73 hm
              refine z_iconst C dX6_readsItem_149 ?_
              cases hm
              exact z_zret C E (Or.inl rfl) dX6_readsItem_150 ⟨rfl, rfl, (Or.inl rfl), (z_r_up h_r_draft (z_k 1 rfl)), h_r_begun, h_r_at_71, trivial⟩
          replace hm := hj
          clear hj
          refine z_if_ge (tgt := 125) C h_r60 dX6_readsItem_118 (by decide) (fun c63 => ?_) (fun c63 => ?_)
          · have hm := z_pos c63 hm
            refine z_aload_n C dX6_readsItem_125 1 rfl ?_
            refine z_iconst C dX6_readsItem_126 ?_
            refine z_iload_n C dX6_readsItem_127 2 rfl ?_
            refine z_bipush C dX6_readsItem_128 (by decide) ?_
            obtain ⟨s65, hj, hm⟩ := z_b1s hm
            have J66 : z_n s65 → z_J X 0 0 ([(r_o, z_o 6 [.ref r_Atext, z_i r_typed, .ref r_Atold, .ref r_Adraft, .ref r_Abegun, .ref r_As, .ref r_Apast, z_i r_known, .ref r_Aimages, z_i r_kept, .ref r_Arings, z_i r_rung, z_i r_at_61, .ref r_Astates, .ref r_Aheld, .ref r_Ahere, .ref r_Athere]), (r_Atext, z_a G.2.1 200 r_text), (r_Atold, z_a G.2.1 39 r_told), (r_Adraft, z_a G.2.1 39 (z_up r_draft 2 1)), (r_Abegun, z_a G.2.1 73 r_begun), (r_As, z_a G.2.1 73 r_s), (r_Apast, z_a G.2.1 584 r_past), (r_Aimages, z_a G.2.1 146 r_images), (r_Arings, z_a G.2.1 6 r_rings), (r_Astates, z_a G.2.1 36 r_states), (r_Aheld, z_a G.2.1 73 r_held), (r_Ahere, z_a G.2.2.2.2 36 r_here), (r_Athere, z_a G.2.2.2.2 36 r_there)]) [(0, .ref r_o), (1, z_i x1), (2, z_i r60)] 139 [z_i s65, z_i 0, .ref r_o] := by
              intro h_s65
              clear hj
              refine z_bipush C dX6_readsItem_139 (by decide) ?_
              obtain ⟨r67, r_at_68, k69, hm⟩ := z_b2s hm
              refine z_callVid C (k_X6_number l G N r_o r_Atext r_Atold r_Adraft r_Abegun r_As r_Apast r_Aimages r_Arings r_Astates r_Aheld r_Ahere r_Athere r_text r_typed r_told (z_up r_draft 2 1) r_begun r_s r_past r_known r_images r_kept r_rings r_rung r_at_61 r_states r_held r_here r_there 0 s65 59 h_r_text h_r_typed h_r_told (z_r_up h_r_draft (z_k 1 rfl)) h_r_begun h_r_s h_r_past h_r_known h_r_images h_r_kept h_r_rings h_r_rung h_r_at_61 h_r_states h_r_held h_r_here h_r_there (z_k 0 rfl) h_s65 (z_k 59 rfl) r67 r_at_68 k69) zv_X6_number zl_X6_76 dX6_readsItem_141 rfl 0 rfl rfl rfl [] rfl (Nat.le_of_ble_eq_true rfl) ⟨Nat.le_of_ble_eq_true rfl, Nat.le_of_ble_eq_true rfl⟩ ⟨rfl, rfl⟩ ⟨Nat.zero_le _, Nat.zero_le _⟩ (fun hF => ?_)
              obtain ⟨h_r67, h_r_at_68, -⟩ := hF
              cases hm
              exact J72 h_r67 h_r_at_68
            replace hm := hj
            clear hj
            refine z_icmp_ne (tgt := 137) C h_x1 (z_k 107 rfl) dX6_readsItem_130 (by decide) (fun c64 => ?_) (fun c64 => ?_)
            · have hm := z_pos c64 hm
              refine z_bipush C dX6_readsItem_137 (by decide) ?_
              refine z_sub (L' := [(0, .ref r_o), (1, z_i x1), (2, z_i r60)]) [1, 2, 0] rfl ?_
              cases hm
              exact J66 (z_k 20 rfl)
            · have hm := z_neg c64 hm
              refine z_iconst C dX6_readsItem_133 ?_
              refine z_goto (tgt := 139) C dX6_readsItem_134 (by decide) ?_
              refine z_sub (L' := [(0, .ref r_o), (1, z_i x1), (2, z_i r60)]) [1, 2, 0] rfl ?_
              cases hm
              exact J66 (z_k 4 rfl)
          · have hm := z_neg c63 hm
            refine z_iconst C dX6_readsItem_121 ?_
            refine z_goto (tgt := 144) C dX6_readsItem_122 (by decide) ?_
            refine z_sub (L' := [(0, .ref r_o), (1, z_i x1), (2, z_i r60)]) [1, 2, 0] rfl ?_
            cases hm
            exact J72 (z_k (-1) rfl) h_r_at_61
        · have hm := z_neg c55 hm
          refine z_iconst C dX6_readsItem_92 ?_
          cases hm
          exact z_zret C E (Or.inl rfl) dX6_readsItem_93 ⟨rfl, rfl, (Or.inl rfl), (z_r_up h_r_draft (z_k 1 rfl)), h_r_begun, h_r_at, trivial⟩
  · have hm := z_neg c1 hm
    refine z_aload_n C dX6_readsItem_6 0 rfl ?_
    refine z_iconst C dX6_readsItem_7 ?_
    refine z_bipush C dX6_readsItem_8 (by decide) ?_
    refine z_bipush C dX6_readsItem_10 (by decide) ?_
    obtain ⟨r81, r_at_82, k83, hm⟩ := z_b2s hm
    refine z_callVid C (k_X6_number l G N r_o r_Atext r_Atold r_Adraft r_Abegun r_As r_Apast r_Aimages r_Arings r_Astates r_Aheld r_Ahere r_Athere r_text r_typed r_told r_draft r_begun r_s r_past r_known r_images r_kept r_rings r_rung r_at r_states r_held r_here r_there 2 6 44 h_r_text h_r_typed h_r_told h_r_draft h_r_begun h_r_s h_r_past h_r_known h_r_images h_r_kept h_r_rings h_r_rung h_r_at h_r_states h_r_held h_r_here h_r_there (z_k 2 rfl) (z_k 6 rfl) (z_k 44 rfl) r81 r_at_82 k83) zv_X6_number zl_X6_76 dX6_readsItem_12 rfl 0 rfl rfl rfl [] rfl (Nat.le_of_ble_eq_true rfl) ⟨Nat.le_of_ble_eq_true rfl, Nat.le_of_ble_eq_true rfl⟩ ⟨rfl, rfl⟩ ⟨Nat.zero_le _, Nat.zero_le _⟩ (fun hF => ?_)
    obtain ⟨h_r81, h_r_at_82, -⟩ := hF
    refine z_istore_n C dX6_readsItem_15 (by decide) (L' := [(2, z_i r81), (0, .ref r_o), (1, z_i x1)]) rfl ?_
    refine z_iload_n C dX6_readsItem_16 0 rfl ?_
    obtain ⟨s88, r_at_89, hj, hm⟩ := z_b2s hm
    have J90 : z_n s88 → z_n r_at_89 → z_J X 0 0 ([(r_o, z_o 6 [.ref r_Atext, z_i r_typed, .ref r_Atold, .ref r_Adraft, .ref r_Abegun, .ref r_As, .ref r_Apast, z_i r_known, .ref r_Aimages, z_i r_kept, .ref r_Arings, z_i r_rung, z_i r_at_89, .ref r_Astates, .ref r_Aheld, .ref r_Ahere, .ref r_Athere]), (r_Atext, z_a G.2.1 200 r_text), (r_Atold, z_a G.2.1 39 r_told), (r_Adraft, z_a G.2.1 39 r_draft), (r_Abegun, z_a G.2.1 73 r_begun), (r_As, z_a G.2.1 73 r_s), (r_Apast, z_a G.2.1 584 r_past), (r_Aimages, z_a G.2.1 146 r_images), (r_Arings, z_a G.2.1 6 r_rings), (r_Astates, z_a G.2.1 36 r_states), (r_Aheld, z_a G.2.1 73 r_held), (r_Ahere, z_a G.2.2.2.2 36 r_here), (r_Athere, z_a G.2.2.2.2 36 r_there)]) [(0, .ref r_o), (2, z_i r81)] 33 [z_i s88] := by
      intro h_s88 h_r_at_89
      clear hj
      refine z_istore_n C dX6_readsItem_33 (by decide) (L' := [(3, z_i s88), (0, .ref r_o), (2, z_i r81)]) rfl ?_
      refine z_aload_n C dX6_readsItem_34 1 rfl ?_
      refine z_get C zf_X6_16 dX6_readsItem_35 0 rfl rfl ?_
      refine z_iconst C dX6_readsItem_38 ?_
      refine z_iload_n C dX6_readsItem_39 2 rfl ?_
      obtain ⟨c91, hm⟩ := z_chk_some hm
      refine z_iast C dX6_readsItem_40 3 rfl c91 (z_k 0 rfl) (ws' := [(r_o, z_o 6 [.ref r_Atext, z_i r_typed, .ref r_Atold, .ref r_Adraft, .ref r_Abegun, .ref r_As, .ref r_Apast, z_i r_known, .ref r_Aimages, z_i r_kept, .ref r_Arings, z_i r_rung, z_i r_at_89, .ref r_Astates, .ref r_Aheld, .ref r_Ahere, .ref r_Athere]), (r_Atext, z_a G.2.1 200 r_text), (r_Atold, z_a G.2.1 39 r_told), (r_Adraft, z_a G.2.1 39 (z_up r_draft 0 r81)), (r_Abegun, z_a G.2.1 73 r_begun), (r_As, z_a G.2.1 73 r_s), (r_Apast, z_a G.2.1 584 r_past), (r_Aimages, z_a G.2.1 146 r_images), (r_Arings, z_a G.2.1 6 r_rings), (r_Astates, z_a G.2.1 36 r_states), (r_Aheld, z_a G.2.1 73 r_held), (r_Ahere, z_a G.2.2.2.2 36 r_here), (r_Athere, z_a G.2.2.2.2 36 r_there)]) rfl ?_
      refine z_aload_n C dX6_readsItem_41 1 rfl ?_
      refine z_get C zf_X6_16 dX6_readsItem_42 0 rfl rfl ?_
      refine z_iconst C dX6_readsItem_45 ?_
      refine z_iload_n C dX6_readsItem_46 0 rfl ?_
      obtain ⟨c92, hm⟩ := z_chk_some hm
      refine z_iast C dX6_readsItem_47 3 rfl c92 (z_k 1 rfl) (ws' := [(r_o, z_o 6 [.ref r_Atext, z_i r_typed, .ref r_Atold, .ref r_Adraft, .ref r_Abegun, .ref r_As, .ref r_Apast, z_i r_known, .ref r_Aimages, z_i r_kept, .ref r_Arings, z_i r_rung, z_i r_at_89, .ref r_Astates, .ref r_Aheld, .ref r_Ahere, .ref r_Athere]), (r_Atext, z_a G.2.1 200 r_text), (r_Atold, z_a G.2.1 39 r_told), (r_Adraft, z_a G.2.1 39 (z_up (z_up r_draft 0 r81) 1 s88)), (r_Abegun, z_a G.2.1 73 r_begun), (r_As, z_a G.2.1 73 r_s), (r_Apast, z_a G.2.1 584 r_past), (r_Aimages, z_a G.2.1 146 r_images), (r_Arings, z_a G.2.1 6 r_rings), (r_Astates, z_a G.2.1 36 r_states), (r_Aheld, z_a G.2.1 73 r_held), (r_Ahere, z_a G.2.2.2.2 36 r_here), (r_Athere, z_a G.2.2.2.2 36 r_there)]) rfl ?_
      refine z_iload_n C dX6_readsItem_48 0 rfl ?_
      refine z_if_le (tgt := 65) C h_s88 dX6_readsItem_49 (by decide) (fun c93 => ?_) (fun c93 => ?_)
      · have hm := z_pos c93 hm
        refine z_iconst C dX6_readsItem_65 ?_
        cases hm
        exact z_zret C E (Or.inl rfl) dX6_readsItem_66 ⟨rfl, rfl, (Or.inl rfl), (z_r_up (z_r_up h_r_draft h_r81) h_s88), h_r_begun, h_r_at_89, trivial⟩
      · have hm := z_neg c93 hm
        refine z_aload_n C dX6_readsItem_52 1 rfl ?_
        refine z_get C zf_X6_16 dX6_readsItem_53 0 rfl rfl ?_
        refine z_iconst C dX6_readsItem_56 ?_
        obtain ⟨c94, hm⟩ := z_chk_some hm
        refine z_iald C dX6_readsItem_57 3 rfl c94 (z_k 2 rfl) ?_
        refine z_if_ne (tgt := 65) C ((z_r_up (z_r_up h_r_draft h_r81) h_s88) _) dX6_readsItem_58 (by decide) (fun c95 => ?_) (fun c95 => ?_)
        · have hm := z_pos c95 hm
          refine z_iconst C dX6_readsItem_65 ?_
          cases hm
          exact z_zret C E (Or.inl rfl) dX6_readsItem_66 ⟨rfl, rfl, (Or.inl rfl), (z_r_up (z_r_up h_r_draft h_r81) h_s88), h_r_begun, h_r_at_89, trivial⟩
        · have hm := z_neg c95 hm
          refine z_iconst C dX6_readsItem_61 ?_
          refine z_goto (tgt := 66) C dX6_readsItem_62 (by decide) ?_
          cases hm
          exact z_zret C E (Or.inr rfl) dX6_readsItem_66 ⟨rfl, rfl, (Or.inr rfl), (z_r_up (z_r_up h_r_draft h_r81) h_s88), h_r_begun, h_r_at_89, trivial⟩
    replace hm := hj
    clear hj
    refine z_if_ge (tgt := 24) C h_r81 dX6_readsItem_17 (by decide) (fun c84 => ?_) (fun c84 => ?_)
    · have hm := z_pos c84 hm
      refine z_aload_n C dX6_readsItem_24 1 rfl ?_
      refine z_iconst C dX6_readsItem_25 ?_
      refine z_bipush C dX6_readsItem_26 (by decide) ?_
      refine z_bipush C dX6_readsItem_28 (by decide) ?_
      obtain ⟨r85, r_at_86, k87, hm⟩ := z_b2s hm
      refine z_callVid C (k_X6_number l G N r_o r_Atext r_Atold r_Adraft r_Abegun r_As r_Apast r_Aimages r_Arings r_Astates r_Aheld r_Ahere r_Athere r_text r_typed r_told r_draft r_begun r_s r_past r_known r_images r_kept r_rings r_rung r_at_82 r_states r_held r_here r_there 2 6 59 h_r_text h_r_typed h_r_told h_r_draft h_r_begun h_r_s h_r_past h_r_known h_r_images h_r_kept h_r_rings h_r_rung h_r_at_82 h_r_states h_r_held h_r_here h_r_there (z_k 2 rfl) (z_k 6 rfl) (z_k 59 rfl) r85 r_at_86 k87) zv_X6_number zl_X6_76 dX6_readsItem_30 rfl 0 rfl rfl rfl [] rfl (Nat.le_of_ble_eq_true rfl) ⟨Nat.le_of_ble_eq_true rfl, Nat.le_of_ble_eq_true rfl⟩ ⟨rfl, rfl⟩ ⟨Nat.zero_le _, Nat.zero_le _⟩ (fun hF => ?_)
      obtain ⟨h_r85, h_r_at_86, -⟩ := hF
      refine z_sub (L' := [(0, .ref r_o), (2, z_i r81)]) [1, 0] rfl ?_
      cases hm
      exact J90 h_r85 h_r_at_86
    · have hm := z_neg c84 hm
      refine z_iconst C dX6_readsItem_20 ?_
      refine z_goto (tgt := 33) C dX6_readsItem_21 (by decide) ?_
      refine z_sub (L' := [(0, .ref r_o), (2, z_i r81)]) [1, 0] rfl ?_
      cases hm
      exact J90 (z_k (-1) rfl) h_r_at_82
set_option maxRecDepth 100000 in
theorem k_X6_readsAll (l : Launch) (G : z_G) (N : Nat) (r_o r_Atext r_Atold r_Adraft r_Abegun r_As r_Apast r_Aimages r_Arings r_Astates r_Aheld r_Ahere r_Athere : Nat) (r_text : (Int → Int)) (r_typed : Int) (r_told : (Int → Int)) (r_draft : (Int → Int)) (r_begun : (Int → Int)) (r_s : (Int → Int)) (r_past : (Int → Int)) (r_known : Int) (r_images : (Int → Int)) (r_kept : Int) (r_rings : (Int → Int)) (r_rung : Int) (r_at : Int) (r_states : (Int → Int)) (r_held : (Int → Int)) (r_here : (Int → Int)) (r_there : (Int → Int)) (h_r_text : z_r r_text) (h_r_typed : z_n r_typed) (h_r_told : z_r r_told) (h_r_draft : z_r r_draft) (h_r_begun : z_r r_begun) (h_r_s : z_r r_s) (h_r_past : z_r r_past) (h_r_known : z_n r_known) (h_r_images : z_r r_images) (h_r_kept : z_n r_kept) (h_r_rings : z_r r_rings) (h_r_rung : z_n r_rung) (h_r_at : z_n r_at) (h_r_states : z_r r_states) (h_r_held : z_r r_held) (h_r_here : z_r r_here) (h_r_there : z_r r_there) (rr : Int) (q_r_draft : (Int → Int)) (q_r_begun : (Int → Int)) (q_r_at : Int) (hm : m_X6_readsAll N r_text r_typed r_draft r_begun r_at = some (rr, q_r_draft, q_r_begun, q_r_at)) : z_M l G yX6_readsAll cX6_readsAll 2 (some .int) (k2_rm 4 90) [.ref r_o] ([(r_o, z_o 6 [.ref r_Atext, z_i r_typed, .ref r_Atold, .ref r_Adraft, .ref r_Abegun, .ref r_As, .ref r_Apast, z_i r_known, .ref r_Aimages, z_i r_kept, .ref r_Arings, z_i r_rung, z_i r_at, .ref r_Astates, .ref r_Aheld, .ref r_Ahere, .ref r_Athere]), (r_Atext, z_a G.2.1 200 r_text), (r_Atold, z_a G.2.1 39 r_told), (r_Adraft, z_a G.2.1 39 r_draft), (r_Abegun, z_a G.2.1 73 r_begun), (r_As, z_a G.2.1 73 r_s), (r_Apast, z_a G.2.1 584 r_past), (r_Aimages, z_a G.2.1 146 r_images), (r_Arings, z_a G.2.1 6 r_rings), (r_Astates, z_a G.2.1 36 r_states), (r_Aheld, z_a G.2.1 73 r_held), (r_Ahere, z_a G.2.2.2.2 36 r_here), (r_Athere, z_a G.2.2.2.2 36 r_there)]) 0 0 (fun v w => v = some (z_i rr) ∧ w = [(r_o, z_o 6 [.ref r_Atext, z_i r_typed, .ref r_Atold, .ref r_Adraft, .ref r_Abegun, .ref r_As, .ref r_Apast, z_i r_known, .ref r_Aimages, z_i r_kept, .ref r_Arings, z_i r_rung, z_i q_r_at, .ref r_Astates, .ref r_Aheld, .ref r_Ahere, .ref r_Athere]), (r_Atext, z_a G.2.1 200 r_text), (r_Atold, z_a G.2.1 39 r_told), (r_Adraft, z_a G.2.1 39 q_r_draft), (r_Abegun, z_a G.2.1 73 q_r_begun), (r_As, z_a G.2.1 73 r_s), (r_Apast, z_a G.2.1 584 r_past), (r_Aimages, z_a G.2.1 146 r_images), (r_Arings, z_a G.2.1 6 r_rings), (r_Astates, z_a G.2.1 36 r_states), (r_Aheld, z_a G.2.1 73 r_held), (r_Ahere, z_a G.2.2.2.2 36 r_here), (r_Athere, z_a G.2.2.2.2 36 r_there)] ∧ z_n rr ∧ z_r q_r_draft ∧ z_r q_r_begun ∧ z_n q_r_at ∧ True) := by
  unfold m_X6_readsAll at hm
  refine z_M.intro (by decide +kernel) (Nat.le_of_ble_eq_true rfl) (L := [(0, .ref r_o)]) rfl (fun X C E => ?_)
  refine z_aload_n C dX6_readsAll_0 0 rfl ?_
  obtain ⟨r_draft_1, r_begun_2, k3, hm⟩ := z_b2s hm
  refine z_callVvd C (k_X6_begins l G N r_o r_Atext r_Atold r_Adraft r_Abegun r_As r_Apast r_Aimages r_Arings r_Astates r_Aheld r_Ahere r_Athere r_text r_typed r_told r_draft r_begun r_s r_past r_known r_images r_kept r_rings r_rung r_at r_states r_held r_here r_there h_r_text h_r_typed h_r_told h_r_draft h_r_begun h_r_s h_r_past h_r_known h_r_images h_r_kept h_r_rings h_r_rung h_r_at h_r_states h_r_held h_r_here h_r_there r_draft_1 r_begun_2 k3) zv_X6_begins zl_X6_47 dX6_readsAll_1 rfl 0 rfl rfl rfl [] rfl (Nat.le_of_ble_eq_true rfl) ⟨Nat.le_of_ble_eq_true rfl, Nat.le_of_ble_eq_true rfl⟩ ⟨rfl, rfl⟩ ⟨Nat.zero_le _, Nat.zero_le _⟩ (fun hF => ?_)
  obtain ⟨h_r_draft_1, h_r_begun_2, -⟩ := hF
  refine z_aload_n C dX6_readsAll_4 0 rfl ?_
  refine z_iconst C dX6_readsAll_5 ?_
  refine z_puti C zf_X6_65 dX6_readsAll_6 0 rfl rfl (ws' := [(r_o, z_o 6 [.ref r_Atext, z_i r_typed, .ref r_Atold, .ref r_Adraft, .ref r_Abegun, .ref r_As, .ref r_Apast, z_i r_known, .ref r_Aimages, z_i r_kept, .ref r_Arings, z_i r_rung, z_i 0, .ref r_Astates, .ref r_Aheld, .ref r_Ahere, .ref r_Athere]), (r_Atext, z_a G.2.1 200 r_text), (r_Atold, z_a G.2.1 39 r_told), (r_Adraft, z_a G.2.1 39 r_draft_1), (r_Abegun, z_a G.2.1 73 r_begun_2), (r_As, z_a G.2.1 73 r_s), (r_Apast, z_a G.2.1 584 r_past), (r_Aimages, z_a G.2.1 146 r_images), (r_Arings, z_a G.2.1 6 r_rings), (r_Astates, z_a G.2.1 36 r_states), (r_Aheld, z_a G.2.1 73 r_held), (r_Ahere, z_a G.2.2.2.2 36 r_here), (r_Athere, z_a G.2.2.2.2 36 r_there)]) rfl ?_
  have L1 : ∀ (n1 : Nat) (r_draft_1 : (Int → Int)) (r_begun_1 : (Int → Int)) (r_at_1 : Int), z_r r_draft_1 → z_r r_begun_1 → z_n r_at_1 → m_X6_readsAll_l1 N r_typed r_text n1 r_draft_1 r_begun_1 r_at_1 = some (rr, q_r_draft, q_r_begun, q_r_at) → z_J X 0 0 ([(r_o, z_o 6 [.ref r_Atext, z_i r_typed, .ref r_Atold, .ref r_Adraft, .ref r_Abegun, .ref r_As, .ref r_Apast, z_i r_known, .ref r_Aimages, z_i r_kept, .ref r_Arings, z_i r_rung, z_i r_at_1, .ref r_Astates, .ref r_Aheld, .ref r_Ahere, .ref r_Athere]), (r_Atext, z_a G.2.1 200 r_text), (r_Atold, z_a G.2.1 39 r_told), (r_Adraft, z_a G.2.1 39 r_draft_1), (r_Abegun, z_a G.2.1 73 r_begun_1), (r_As, z_a G.2.1 73 r_s), (r_Apast, z_a G.2.1 584 r_past), (r_Aimages, z_a G.2.1 146 r_images), (r_Arings, z_a G.2.1 6 r_rings), (r_Astates, z_a G.2.1 36 r_states), (r_Aheld, z_a G.2.1 73 r_held), (r_Ahere, z_a G.2.2.2.2 36 r_here), (r_Athere, z_a G.2.2.2.2 36 r_there)]) [(0, .ref r_o)] 9 [] := by
    clear hm
    intro n1
    induction n1 with
    | zero =>
      intro r_draft_1 r_begun_1 r_at_1 h_r_draft_1 h_r_begun_1 h_r_at_1 hm
      rw [m_X6_readsAll_l1] at hm
      cases hm
    | succ n1 ih1 =>
      intro r_draft_1 r_begun_1 r_at_1 h_r_draft_1 h_r_begun_1 h_r_at_1 hm
      rw [m_X6_readsAll_l1] at hm
      refine z_aload_n C dX6_readsAll_9 0 rfl ?_
      refine z_get C zf_X6_65 dX6_readsAll_10 0 rfl rfl ?_
      refine z_aload_n C dX6_readsAll_13 0 rfl ?_
      refine z_get C zf_X6_61 dX6_readsAll_14 0 rfl rfl ?_
      refine z_icmp_ge (tgt := 53) C h_r_at_1 h_r_typed dX6_readsAll_17 (by decide) (fun c4 => ?_) (fun c4 => ?_)
      · have hm := z_pos c4 hm
        refine z_bipush C dX6_readsAll_53 (by decide) ?_
        cases hm
        exact z_iret C E dX6_readsAll_55 ⟨rfl, rfl, (z_k (-4) rfl), h_r_draft_1, h_r_begun_1, h_r_at_1, trivial⟩
      · have hm := z_neg c4 hm
        refine z_aload_n C dX6_readsAll_20 0 rfl ?_
        refine z_get C zf_X6_65 dX6_readsAll_21 0 rfl rfl ?_
        refine z_istore_n C dX6_readsAll_24 (by decide) (L' := [(1, z_i r_at_1), (0, .ref r_o)]) rfl ?_
        refine z_aload_n C dX6_readsAll_25 1 rfl ?_
        refine z_dup C rfl dX6_readsAll_26 ?_
        refine z_get C zf_X6_65 dX6_readsAll_27 0 rfl rfl ?_
        refine z_iconst C dX6_readsAll_30 ?_
        obtain ⟨c5, hm⟩ := z_chk_some hm
        refine z_iadd C dX6_readsAll_31 ?_
        refine z_puti C zf_X6_65 dX6_readsAll_32 0 rfl rfl (ws' := [(r_o, z_o 6 [.ref r_Atext, z_i r_typed, .ref r_Atold, .ref r_Adraft, .ref r_Abegun, .ref r_As, .ref r_Apast, z_i r_known, .ref r_Aimages, z_i r_kept, .ref r_Arings, z_i r_rung, z_i (r_at_1 + 1), .ref r_Astates, .ref r_Aheld, .ref r_Ahere, .ref r_Athere]), (r_Atext, z_a G.2.1 200 r_text), (r_Atold, z_a G.2.1 39 r_told), (r_Adraft, z_a G.2.1 39 r_draft_1), (r_Abegun, z_a G.2.1 73 r_begun_1), (r_As, z_a G.2.1 73 r_s), (r_Apast, z_a G.2.1 584 r_past), (r_Aimages, z_a G.2.1 146 r_images), (r_Arings, z_a G.2.1 6 r_rings), (r_Astates, z_a G.2.1 36 r_states), (r_Aheld, z_a G.2.1 73 r_held), (r_Ahere, z_a G.2.2.2.2 36 r_here), (r_Athere, z_a G.2.2.2.2 36 r_there)]) rfl ?_
        refine z_aload_n C dX6_readsAll_35 1 rfl ?_
        refine z_aload_n C dX6_readsAll_36 1 rfl ?_
        refine z_get C zf_X6_7 dX6_readsAll_37 0 rfl rfl ?_
        refine z_iload_n C dX6_readsAll_40 0 rfl ?_
        obtain ⟨c6, hm⟩ := z_chk_some hm
        refine z_iald C dX6_readsAll_41 1 rfl c6 h_r_at_1 ?_
        obtain ⟨r7, r_draft_8, r_begun_9, r_at_10, k11, hm⟩ := z_b4s hm
        refine z_callVid C (k_X6_readsItem l G N r_o r_Atext r_Atold r_Adraft r_Abegun r_As r_Apast r_Aimages r_Arings r_Astates r_Aheld r_Ahere r_Athere r_text r_typed r_told r_draft_1 r_begun_1 r_s r_past r_known r_images r_kept r_rings r_rung (r_at_1 + 1) r_states r_held r_here r_there (r_text r_at_1) h_r_text h_r_typed h_r_told h_r_draft_1 h_r_begun_1 h_r_s h_r_past h_r_known h_r_images h_r_kept h_r_rings h_r_rung c5 h_r_states h_r_held h_r_here h_r_there (h_r_text _) r7 r_draft_8 r_begun_9 r_at_10 k11) zv_X6_readsItem zl_X6_80 dX6_readsAll_42 rfl 0 rfl rfl rfl [] rfl (Nat.le_of_ble_eq_true rfl) ⟨Nat.le_of_ble_eq_true rfl, Nat.le_of_ble_eq_true rfl⟩ ⟨rfl, rfl⟩ ⟨Nat.zero_le _, Nat.zero_le _⟩ (fun hF => ?_)
        obtain ⟨hb_r7, h_r_draft_8, h_r_begun_9, h_r_at_10, -⟩ := hF
        refine z_if_ne (tgt := 50) C (z_n01 hb_r7) dX6_readsAll_45 (by decide) (fun c12 => ?_) (fun c12 => ?_)
        · have hm := z_pos c12 hm
          refine z_goto (tgt := 9) C dX6_readsAll_50 (by decide) ?_
          refine z_sub (L' := [(0, .ref r_o)]) [1] rfl ?_
          exact ih1 r_draft_8 r_begun_9 r_at_10 h_r_draft_8 h_r_begun_9 h_r_at_10 hm
        · have hm := z_neg c12 hm
          refine z_iload_n C dX6_readsAll_48 0 rfl ?_
          cases hm
          exact z_iret C E dX6_readsAll_49 ⟨rfl, rfl, h_r_at_1, h_r_draft_8, h_r_begun_9, h_r_at_10, trivial⟩
  exact L1 N r_draft_1 r_begun_2 0 h_r_draft_1 h_r_begun_2 (z_k 0 rfl) hm
