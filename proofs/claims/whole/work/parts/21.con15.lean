set_option maxRecDepth 100000 in
theorem k_X6_begins (l : Launch) (G : z_G) (N : Nat) (r_o r_Atext r_Atold r_Adraft r_Abegun r_As r_Apast r_Aimages r_Arings r_Astates r_Aheld r_Ahere r_Athere : Nat) (r_text : (Int → Int)) (r_typed : Int) (r_told : (Int → Int)) (r_draft : (Int → Int)) (r_begun : (Int → Int)) (r_s : (Int → Int)) (r_past : (Int → Int)) (r_known : Int) (r_images : (Int → Int)) (r_kept : Int) (r_rings : (Int → Int)) (r_rung : Int) (r_at : Int) (r_states : (Int → Int)) (r_held : (Int → Int)) (r_here : (Int → Int)) (r_there : (Int → Int)) (h_r_text : z_r r_text) (h_r_typed : z_n r_typed) (h_r_told : z_r r_told) (h_r_draft : z_r r_draft) (h_r_begun : z_r r_begun) (h_r_s : z_r r_s) (h_r_past : z_r r_past) (h_r_known : z_n r_known) (h_r_images : z_r r_images) (h_r_kept : z_n r_kept) (h_r_rings : z_r r_rings) (h_r_rung : z_n r_rung) (h_r_at : z_n r_at) (h_r_states : z_r r_states) (h_r_held : z_r r_held) (h_r_here : z_r r_here) (h_r_there : z_r r_there) (q_r_draft : (Int → Int)) (q_r_begun : (Int → Int)) (hm : m_X6_begins N r_draft r_begun = some (q_r_draft, q_r_begun)) : z_M l G yX6_begins cX6_begins 2 none (k2_rm 1 22) [.ref r_o] ([(r_o, z_o 6 [.ref r_Atext, z_i r_typed, .ref r_Atold, .ref r_Adraft, .ref r_Abegun, .ref r_As, .ref r_Apast, z_i r_known, .ref r_Aimages, z_i r_kept, .ref r_Arings, z_i r_rung, z_i r_at, .ref r_Astates, .ref r_Aheld, .ref r_Ahere, .ref r_Athere]), (r_Atext, z_a G.2.1 200 r_text), (r_Atold, z_a G.2.1 39 r_told), (r_Adraft, z_a G.2.1 39 r_draft), (r_Abegun, z_a G.2.1 73 r_begun), (r_As, z_a G.2.1 73 r_s), (r_Apast, z_a G.2.1 584 r_past), (r_Aimages, z_a G.2.1 146 r_images), (r_Arings, z_a G.2.1 6 r_rings), (r_Astates, z_a G.2.1 36 r_states), (r_Aheld, z_a G.2.1 73 r_held), (r_Ahere, z_a G.2.2.2.2 36 r_here), (r_Athere, z_a G.2.2.2.2 36 r_there)]) 0 0 (fun v w => v = none ∧ w = [(r_o, z_o 6 [.ref r_Atext, z_i r_typed, .ref r_Atold, .ref r_Adraft, .ref r_Abegun, .ref r_As, .ref r_Apast, z_i r_known, .ref r_Aimages, z_i r_kept, .ref r_Arings, z_i r_rung, z_i r_at, .ref r_Astates, .ref r_Aheld, .ref r_Ahere, .ref r_Athere]), (r_Atext, z_a G.2.1 200 r_text), (r_Atold, z_a G.2.1 39 r_told), (r_Adraft, z_a G.2.1 39 q_r_draft), (r_Abegun, z_a G.2.1 73 q_r_begun), (r_As, z_a G.2.1 73 r_s), (r_Apast, z_a G.2.1 584 r_past), (r_Aimages, z_a G.2.1 146 r_images), (r_Arings, z_a G.2.1 6 r_rings), (r_Astates, z_a G.2.1 36 r_states), (r_Aheld, z_a G.2.1 73 r_held), (r_Ahere, z_a G.2.2.2.2 36 r_here), (r_Athere, z_a G.2.2.2.2 36 r_there)] ∧ z_r q_r_draft ∧ z_r q_r_begun ∧ True) := by
  unfold m_X6_begins at hm
  refine z_M.intro (by decide +kernel) (Nat.le_of_ble_eq_true rfl) (L := [(0, .ref r_o)]) rfl (fun X C E => ?_)
  refine z_iconst C dX6_begins_0 ?_
  refine z_istore_n C dX6_begins_1 (by decide) (L' := [(1, z_i 0), (0, .ref r_o)]) rfl ?_
  obtain ⟨o_r_draft_1, hl, hm⟩ := z_b1s hm
  have JX1 : z_r o_r_draft_1 → z_J X 0 0 ([(r_o, z_o 6 [.ref r_Atext, z_i r_typed, .ref r_Atold, .ref r_Adraft, .ref r_Abegun, .ref r_As, .ref r_Apast, z_i r_known, .ref r_Aimages, z_i r_kept, .ref r_Arings, z_i r_rung, z_i r_at, .ref r_Astates, .ref r_Aheld, .ref r_Ahere, .ref r_Athere]), (r_Atext, z_a G.2.1 200 r_text), (r_Atold, z_a G.2.1 39 r_told), (r_Adraft, z_a G.2.1 39 o_r_draft_1), (r_Abegun, z_a G.2.1 73 r_begun), (r_As, z_a G.2.1 73 r_s), (r_Apast, z_a G.2.1 584 r_past), (r_Aimages, z_a G.2.1 146 r_images), (r_Arings, z_a G.2.1 6 r_rings), (r_Astates, z_a G.2.1 36 r_states), (r_Aheld, z_a G.2.1 73 r_held), (r_Ahere, z_a G.2.2.2.2 36 r_here), (r_Athere, z_a G.2.2.2.2 36 r_there)]) [(0, .ref r_o)] 21 [] := by
    intro h_o_r_draft_1
    clear hl
    refine z_aload_n C dX6_begins_21 0 rfl ?_
    refine z_get C zf_X6_16 dX6_begins_22 0 rfl rfl ?_
    refine z_iconst C dX6_begins_25 ?_
    refine z_iconst C dX6_begins_26 ?_
    obtain ⟨c4, hm⟩ := z_chk_some hm
    refine z_iast C dX6_begins_27 3 rfl c4 (z_k 0 rfl) (ws' := [(r_o, z_o 6 [.ref r_Atext, z_i r_typed, .ref r_Atold, .ref r_Adraft, .ref r_Abegun, .ref r_As, .ref r_Apast, z_i r_known, .ref r_Aimages, z_i r_kept, .ref r_Arings, z_i r_rung, z_i r_at, .ref r_Astates, .ref r_Aheld, .ref r_Ahere, .ref r_Athere]), (r_Atext, z_a G.2.1 200 r_text), (r_Atold, z_a G.2.1 39 r_told), (r_Adraft, z_a G.2.1 39 (z_up o_r_draft_1 0 4)), (r_Abegun, z_a G.2.1 73 r_begun), (r_As, z_a G.2.1 73 r_s), (r_Apast, z_a G.2.1 584 r_past), (r_Aimages, z_a G.2.1 146 r_images), (r_Arings, z_a G.2.1 6 r_rings), (r_Astates, z_a G.2.1 36 r_states), (r_Aheld, z_a G.2.1 73 r_held), (r_Ahere, z_a G.2.2.2.2 36 r_here), (r_Athere, z_a G.2.2.2.2 36 r_there)]) rfl ?_
    refine z_aload_n C dX6_begins_28 0 rfl ?_
    refine z_get C zf_X6_16 dX6_begins_29 0 rfl rfl ?_
    refine z_iconst C dX6_begins_32 ?_
    refine z_iconst C dX6_begins_33 ?_
    obtain ⟨c5, hm⟩ := z_chk_some hm
    refine z_iast C dX6_begins_34 3 rfl c5 (z_k 1 rfl) (ws' := [(r_o, z_o 6 [.ref r_Atext, z_i r_typed, .ref r_Atold, .ref r_Adraft, .ref r_Abegun, .ref r_As, .ref r_Apast, z_i r_known, .ref r_Aimages, z_i r_kept, .ref r_Arings, z_i r_rung, z_i r_at, .ref r_Astates, .ref r_Aheld, .ref r_Ahere, .ref r_Athere]), (r_Atext, z_a G.2.1 200 r_text), (r_Atold, z_a G.2.1 39 r_told), (r_Adraft, z_a G.2.1 39 (z_up (z_up o_r_draft_1 0 4) 1 5)), (r_Abegun, z_a G.2.1 73 r_begun), (r_As, z_a G.2.1 73 r_s), (r_Apast, z_a G.2.1 584 r_past), (r_Aimages, z_a G.2.1 146 r_images), (r_Arings, z_a G.2.1 6 r_rings), (r_Astates, z_a G.2.1 36 r_states), (r_Aheld, z_a G.2.1 73 r_held), (r_Ahere, z_a G.2.2.2.2 36 r_here), (r_Athere, z_a G.2.2.2.2 36 r_there)]) rfl ?_
    refine z_iconst C dX6_begins_35 ?_
    refine z_istore_n C dX6_begins_36 (by decide) (L' := [(1, z_i 0), (0, .ref r_o)]) rfl ?_
    obtain ⟨o_r_begun_2, hl, hm⟩ := z_b1s hm
    have JX2 : z_r o_r_begun_2 → z_J X 0 0 ([(r_o, z_o 6 [.ref r_Atext, z_i r_typed, .ref r_Atold, .ref r_Adraft, .ref r_Abegun, .ref r_As, .ref r_Apast, z_i r_known, .ref r_Aimages, z_i r_kept, .ref r_Arings, z_i r_rung, z_i r_at, .ref r_Astates, .ref r_Aheld, .ref r_Ahere, .ref r_Athere]), (r_Atext, z_a G.2.1 200 r_text), (r_Atold, z_a G.2.1 39 r_told), (r_Adraft, z_a G.2.1 39 (z_up (z_up o_r_draft_1 0 4) 1 5)), (r_Abegun, z_a G.2.1 73 o_r_begun_2), (r_As, z_a G.2.1 73 r_s), (r_Apast, z_a G.2.1 584 r_past), (r_Aimages, z_a G.2.1 146 r_images), (r_Arings, z_a G.2.1 6 r_rings), (r_Astates, z_a G.2.1 36 r_states), (r_Aheld, z_a G.2.1 73 r_held), (r_Ahere, z_a G.2.2.2.2 36 r_here), (r_Athere, z_a G.2.2.2.2 36 r_there)]) [] 71 [] := by
      intro h_o_r_begun_2
      clear hl
      cases hm
      exact z_vret C E dX6_begins_71 ⟨rfl, rfl, (z_r_up (z_r_up h_o_r_draft_1 (z_k 4 rfl)) (z_k 5 rfl)), h_o_r_begun_2, trivial⟩
    clear hm
    have L2 : ∀ (n2 : Nat) (v1_2 : Int) (r_begun_2 : (Int → Int)), z_n v1_2 → z_r r_begun_2 → m_X6_begins_l2 N n2 v1_2 r_begun_2 = some (o_r_begun_2) → z_J X 0 0 ([(r_o, z_o 6 [.ref r_Atext, z_i r_typed, .ref r_Atold, .ref r_Adraft, .ref r_Abegun, .ref r_As, .ref r_Apast, z_i r_known, .ref r_Aimages, z_i r_kept, .ref r_Arings, z_i r_rung, z_i r_at, .ref r_Astates, .ref r_Aheld, .ref r_Ahere, .ref r_Athere]), (r_Atext, z_a G.2.1 200 r_text), (r_Atold, z_a G.2.1 39 r_told), (r_Adraft, z_a G.2.1 39 (z_up (z_up o_r_draft_1 0 4) 1 5)), (r_Abegun, z_a G.2.1 73 r_begun_2), (r_As, z_a G.2.1 73 r_s), (r_Apast, z_a G.2.1 584 r_past), (r_Aimages, z_a G.2.1 146 r_images), (r_Arings, z_a G.2.1 6 r_rings), (r_Astates, z_a G.2.1 36 r_states), (r_Aheld, z_a G.2.1 73 r_held), (r_Ahere, z_a G.2.2.2.2 36 r_here), (r_Athere, z_a G.2.2.2.2 36 r_there)]) [(0, .ref r_o), (1, z_i v1_2)] 37 [] := by
      clear hl
      intro n2
      induction n2 with
      | zero =>
        intro v1_2 r_begun_2 h_v1_2 h_r_begun_2 hm
        rw [m_X6_begins_l2] at hm
        cases hm
      | succ n2 ih2 =>
        intro v1_2 r_begun_2 h_v1_2 h_r_begun_2 hm
        rw [m_X6_begins_l2] at hm
        refine z_iload_n C dX6_begins_37 1 rfl ?_
        refine z_bipush C dX6_begins_38 (by decide) ?_
        refine z_icmp_ge (tgt := 71) C h_v1_2 (z_k 73 rfl) dX6_begins_40 (by decide) (fun c6 => ?_) (fun c6 => ?_)
        · have hm := z_pos c6 hm
          refine z_sub (L' := []) [] rfl ?_
          cases hm
          exact JX2 h_r_begun_2
        · have hm := z_neg c6 hm
          refine z_aload_n C dX6_begins_43 0 rfl ?_
          refine z_get C zf_X6_19 dX6_begins_44 0 rfl rfl ?_
          refine z_iload_n C dX6_begins_47 1 rfl ?_
          refine z_iload_n C dX6_begins_48 1 rfl ?_
          refine z_bipush C dX6_begins_49 (by decide) ?_
          refine z_bipush C dX6_begins_51 (by decide) ?_
          obtain ⟨r7, k8, hm⟩ := z_b1s hm
          refine z_callSi C (k_X6_in l G N v1_2 36 71 h_v1_2 (z_k 36 rfl) (z_k 71 rfl) r7 k8) zs_X6_in zl_X6_57 dX6_begins_53 [] rfl rfl rfl (ws' := [(r_o, z_o 6 [.ref r_Atext, z_i r_typed, .ref r_Atold, .ref r_Adraft, .ref r_Abegun, .ref r_As, .ref r_Apast, z_i r_known, .ref r_Aimages, z_i r_kept, .ref r_Arings, z_i r_rung, z_i r_at, .ref r_Astates, .ref r_Aheld, .ref r_Ahere, .ref r_Athere]), (r_Atext, z_a G.2.1 200 r_text), (r_Atold, z_a G.2.1 39 r_told), (r_Adraft, z_a G.2.1 39 (z_up (z_up o_r_draft_1 0 4) 1 5)), (r_Abegun, z_a G.2.1 73 r_begun_2), (r_As, z_a G.2.1 73 r_s), (r_Apast, z_a G.2.1 584 r_past), (r_Aimages, z_a G.2.1 146 r_images), (r_Arings, z_a G.2.1 6 r_rings), (r_Astates, z_a G.2.1 36 r_states), (r_Aheld, z_a G.2.1 73 r_held), (r_Ahere, z_a G.2.2.2.2 36 r_here), (r_Athere, z_a G.2.2.2.2 36 r_there)]) rfl rfl [z_i v1_2, .ref r_Abegun] rfl (Nat.le_of_ble_eq_true rfl) ⟨Nat.le_of_ble_eq_true rfl, Nat.le_of_ble_eq_true rfl⟩ ⟨rfl, rfl⟩ ⟨Nat.zero_le _, Nat.zero_le _⟩ (fun hF => ?_)
          obtain ⟨hb_r7, -⟩ := hF
          refine z_if_eq (tgt := 63) C (z_n01 hb_r7) dX6_begins_56 (by decide) (fun c9 => ?_) (fun c9 => ?_)
          · have hm := z_pos c9 hm
            refine z_iconst C dX6_begins_63 ?_
            obtain ⟨c10, hm⟩ := z_chk_some hm
            refine z_iast C dX6_begins_64 4 rfl c10 h_v1_2 (ws' := [(r_o, z_o 6 [.ref r_Atext, z_i r_typed, .ref r_Atold, .ref r_Adraft, .ref r_Abegun, .ref r_As, .ref r_Apast, z_i r_known, .ref r_Aimages, z_i r_kept, .ref r_Arings, z_i r_rung, z_i r_at, .ref r_Astates, .ref r_Aheld, .ref r_Ahere, .ref r_Athere]), (r_Atext, z_a G.2.1 200 r_text), (r_Atold, z_a G.2.1 39 r_told), (r_Adraft, z_a G.2.1 39 (z_up (z_up o_r_draft_1 0 4) 1 5)), (r_Abegun, z_a G.2.1 73 (z_up r_begun_2 v1_2 0)), (r_As, z_a G.2.1 73 r_s), (r_Apast, z_a G.2.1 584 r_past), (r_Aimages, z_a G.2.1 146 r_images), (r_Arings, z_a G.2.1 6 r_rings), (r_Astates, z_a G.2.1 36 r_states), (r_Aheld, z_a G.2.1 73 r_held), (r_Ahere, z_a G.2.2.2.2 36 r_here), (r_Athere, z_a G.2.2.2.2 36 r_there)]) rfl ?_
            obtain ⟨c11, hm⟩ := z_chk_some hm
            refine z_iinc C dX6_begins_65 1 rfl (by decide) (L' := [(1, z_i (v1_2 + 1)), (0, .ref r_o)]) rfl ?_
            refine z_goto (tgt := 37) C dX6_begins_68 (by decide) ?_
            refine z_sub (L' := [(0, .ref r_o), (1, z_i (v1_2 + 1))]) [1, 0] rfl ?_
            exact ih2 (v1_2 + 1) (z_up r_begun_2 v1_2 0) c11 (z_r_up h_r_begun_2 (z_k 0 rfl)) hm
          · have hm := z_neg c9 hm
            refine z_iconst C dX6_begins_59 ?_
            refine z_goto (tgt := 64) C dX6_begins_60 (by decide) ?_
            obtain ⟨c12, hm⟩ := z_chk_some hm
            refine z_iast C dX6_begins_64 4 rfl c12 h_v1_2 (ws' := [(r_o, z_o 6 [.ref r_Atext, z_i r_typed, .ref r_Atold, .ref r_Adraft, .ref r_Abegun, .ref r_As, .ref r_Apast, z_i r_known, .ref r_Aimages, z_i r_kept, .ref r_Arings, z_i r_rung, z_i r_at, .ref r_Astates, .ref r_Aheld, .ref r_Ahere, .ref r_Athere]), (r_Atext, z_a G.2.1 200 r_text), (r_Atold, z_a G.2.1 39 r_told), (r_Adraft, z_a G.2.1 39 (z_up (z_up o_r_draft_1 0 4) 1 5)), (r_Abegun, z_a G.2.1 73 (z_up r_begun_2 v1_2 5)), (r_As, z_a G.2.1 73 r_s), (r_Apast, z_a G.2.1 584 r_past), (r_Aimages, z_a G.2.1 146 r_images), (r_Arings, z_a G.2.1 6 r_rings), (r_Astates, z_a G.2.1 36 r_states), (r_Aheld, z_a G.2.1 73 r_held), (r_Ahere, z_a G.2.2.2.2 36 r_here), (r_Athere, z_a G.2.2.2.2 36 r_there)]) rfl ?_
            obtain ⟨c13, hm⟩ := z_chk_some hm
            refine z_iinc C dX6_begins_65 1 rfl (by decide) (L' := [(1, z_i (v1_2 + 1)), (0, .ref r_o)]) rfl ?_
            refine z_goto (tgt := 37) C dX6_begins_68 (by decide) ?_
            refine z_sub (L' := [(0, .ref r_o), (1, z_i (v1_2 + 1))]) [1, 0] rfl ?_
            exact ih2 (v1_2 + 1) (z_up r_begun_2 v1_2 5) c13 (z_r_up h_r_begun_2 (z_k 5 rfl)) hm
    refine z_sub (L' := [(0, .ref r_o), (1, z_i 0)]) [1, 0] rfl ?_
    exact L2 N 0 r_begun (z_k 0 rfl) h_r_begun hl
  clear hm
  have L1 : ∀ (n1 : Nat) (v1_1 : Int) (r_draft_1 : (Int → Int)), z_n v1_1 → z_r r_draft_1 → m_X6_begins_l1 N n1 v1_1 r_draft_1 = some (o_r_draft_1) → z_J X 0 0 ([(r_o, z_o 6 [.ref r_Atext, z_i r_typed, .ref r_Atold, .ref r_Adraft, .ref r_Abegun, .ref r_As, .ref r_Apast, z_i r_known, .ref r_Aimages, z_i r_kept, .ref r_Arings, z_i r_rung, z_i r_at, .ref r_Astates, .ref r_Aheld, .ref r_Ahere, .ref r_Athere]), (r_Atext, z_a G.2.1 200 r_text), (r_Atold, z_a G.2.1 39 r_told), (r_Adraft, z_a G.2.1 39 r_draft_1), (r_Abegun, z_a G.2.1 73 r_begun), (r_As, z_a G.2.1 73 r_s), (r_Apast, z_a G.2.1 584 r_past), (r_Aimages, z_a G.2.1 146 r_images), (r_Arings, z_a G.2.1 6 r_rings), (r_Astates, z_a G.2.1 36 r_states), (r_Aheld, z_a G.2.1 73 r_held), (r_Ahere, z_a G.2.2.2.2 36 r_here), (r_Athere, z_a G.2.2.2.2 36 r_there)]) [(0, .ref r_o), (1, z_i v1_1)] 2 [] := by
    clear hl
    intro n1
    induction n1 with
    | zero =>
      intro v1_1 r_draft_1 h_v1_1 h_r_draft_1 hm
      rw [m_X6_begins_l1] at hm
      cases hm
    | succ n1 ih1 =>
      intro v1_1 r_draft_1 h_v1_1 h_r_draft_1 hm
      rw [m_X6_begins_l1] at hm
      refine z_iload_n C dX6_begins_2 1 rfl ?_
      refine z_bipush C dX6_begins_3 (by decide) ?_
      refine z_icmp_ge (tgt := 21) C h_v1_1 (z_k 39 rfl) dX6_begins_5 (by decide) (fun c1 => ?_) (fun c1 => ?_)
      · have hm := z_pos c1 hm
        refine z_sub (L' := [(0, .ref r_o)]) [0] rfl ?_
        cases hm
        exact JX1 h_r_draft_1
      · have hm := z_neg c1 hm
        refine z_aload_n C dX6_begins_8 0 rfl ?_
        refine z_get C zf_X6_16 dX6_begins_9 0 rfl rfl ?_
        refine z_iload_n C dX6_begins_12 1 rfl ?_
        refine z_iconst C dX6_begins_13 ?_
        obtain ⟨c2, hm⟩ := z_chk_some hm
        refine z_iast C dX6_begins_14 3 rfl c2 h_v1_1 (ws' := [(r_o, z_o 6 [.ref r_Atext, z_i r_typed, .ref r_Atold, .ref r_Adraft, .ref r_Abegun, .ref r_As, .ref r_Apast, z_i r_known, .ref r_Aimages, z_i r_kept, .ref r_Arings, z_i r_rung, z_i r_at, .ref r_Astates, .ref r_Aheld, .ref r_Ahere, .ref r_Athere]), (r_Atext, z_a G.2.1 200 r_text), (r_Atold, z_a G.2.1 39 r_told), (r_Adraft, z_a G.2.1 39 (z_up r_draft_1 v1_1 0)), (r_Abegun, z_a G.2.1 73 r_begun), (r_As, z_a G.2.1 73 r_s), (r_Apast, z_a G.2.1 584 r_past), (r_Aimages, z_a G.2.1 146 r_images), (r_Arings, z_a G.2.1 6 r_rings), (r_Astates, z_a G.2.1 36 r_states), (r_Aheld, z_a G.2.1 73 r_held), (r_Ahere, z_a G.2.2.2.2 36 r_here), (r_Athere, z_a G.2.2.2.2 36 r_there)]) rfl ?_
        obtain ⟨c3, hm⟩ := z_chk_some hm
        refine z_iinc C dX6_begins_15 1 rfl (by decide) (L' := [(1, z_i (v1_1 + 1)), (0, .ref r_o)]) rfl ?_
        refine z_goto (tgt := 2) C dX6_begins_18 (by decide) ?_
        refine z_sub (L' := [(0, .ref r_o), (1, z_i (v1_1 + 1))]) [1, 0] rfl ?_
        exact ih1 (v1_1 + 1) (z_up r_draft_1 v1_1 0) c3 (z_r_up h_r_draft_1 (z_k 0 rfl)) hm
  refine z_sub (L' := [(0, .ref r_o), (1, z_i 0)]) [1, 0] rfl ?_
  exact L1 N 0 r_draft (z_k 0 rfl) h_r_draft hl
set_option maxRecDepth 100000 in
theorem k_X6_cells (l : Launch) (G : z_G) (N : Nat) (r_o r_Atext r_Atold r_Adraft r_Abegun r_As r_Apast r_Aimages r_Arings r_Astates r_Aheld r_Ahere r_Athere : Nat) (r_text : (Int → Int)) (r_typed : Int) (r_told : (Int → Int)) (r_draft : (Int → Int)) (r_begun : (Int → Int)) (r_s : (Int → Int)) (r_past : (Int → Int)) (r_known : Int) (r_images : (Int → Int)) (r_kept : Int) (r_rings : (Int → Int)) (r_rung : Int) (r_at : Int) (r_states : (Int → Int)) (r_held : (Int → Int)) (r_here : (Int → Int)) (r_there : (Int → Int)) (h_r_text : z_r r_text) (h_r_typed : z_n r_typed) (h_r_told : z_r r_told) (h_r_draft : z_r r_draft) (h_r_begun : z_r r_begun) (h_r_s : z_r r_s) (h_r_past : z_r r_past) (h_r_known : z_n r_known) (h_r_images : z_r r_images) (h_r_kept : z_n r_kept) (h_r_rings : z_r r_rings) (h_r_rung : z_n r_rung) (h_r_at : z_n r_at) (h_r_states : z_r r_states) (h_r_held : z_r r_held) (h_r_here : z_r r_here) (h_r_there : z_r r_there) (rr : Int) (hm : m_X6_cells N r_told = some (rr)) : z_M l G yX6_cells cX6_cells 1 (some .int) (k2_rm 0 0) [.ref r_o] ([(r_o, z_o 6 [.ref r_Atext, z_i r_typed, .ref r_Atold, .ref r_Adraft, .ref r_Abegun, .ref r_As, .ref r_Apast, z_i r_known, .ref r_Aimages, z_i r_kept, .ref r_Arings, z_i r_rung, z_i r_at, .ref r_Astates, .ref r_Aheld, .ref r_Ahere, .ref r_Athere]), (r_Atext, z_a G.2.1 200 r_text), (r_Atold, z_a G.2.1 39 r_told), (r_Adraft, z_a G.2.1 39 r_draft), (r_Abegun, z_a G.2.1 73 r_begun), (r_As, z_a G.2.1 73 r_s), (r_Apast, z_a G.2.1 584 r_past), (r_Aimages, z_a G.2.1 146 r_images), (r_Arings, z_a G.2.1 6 r_rings), (r_Astates, z_a G.2.1 36 r_states), (r_Aheld, z_a G.2.1 73 r_held), (r_Ahere, z_a G.2.2.2.2 36 r_here), (r_Athere, z_a G.2.2.2.2 36 r_there)]) 0 0 (fun v w => v = some (z_i rr) ∧ w = [(r_o, z_o 6 [.ref r_Atext, z_i r_typed, .ref r_Atold, .ref r_Adraft, .ref r_Abegun, .ref r_As, .ref r_Apast, z_i r_known, .ref r_Aimages, z_i r_kept, .ref r_Arings, z_i r_rung, z_i r_at, .ref r_Astates, .ref r_Aheld, .ref r_Ahere, .ref r_Athere]), (r_Atext, z_a G.2.1 200 r_text), (r_Atold, z_a G.2.1 39 r_told), (r_Adraft, z_a G.2.1 39 r_draft), (r_Abegun, z_a G.2.1 73 r_begun), (r_As, z_a G.2.1 73 r_s), (r_Apast, z_a G.2.1 584 r_past), (r_Aimages, z_a G.2.1 146 r_images), (r_Arings, z_a G.2.1 6 r_rings), (r_Astates, z_a G.2.1 36 r_states), (r_Aheld, z_a G.2.1 73 r_held), (r_Ahere, z_a G.2.2.2.2 36 r_here), (r_Athere, z_a G.2.2.2.2 36 r_there)] ∧ z_n rr ∧ True) := by
  unfold m_X6_cells at hm
  refine z_M.intro (by decide +kernel) (Nat.le_of_ble_eq_true rfl) (L := [(0, .ref r_o)]) rfl (fun X C E => ?_)
  refine z_aload_n C dX6_cells_0 0 rfl ?_
  refine z_get C zf_X6_13 dX6_cells_1 0 rfl rfl ?_
  refine z_iconst C dX6_cells_4 ?_
  obtain ⟨c1, hm⟩ := z_chk_some hm
  refine z_iald C dX6_cells_5 2 rfl c1 (z_k 0 rfl) ?_
  refine z_aload_n C dX6_cells_6 0 rfl ?_
  refine z_get C zf_X6_13 dX6_cells_7 0 rfl rfl ?_
  refine z_iconst C dX6_cells_10 ?_
  obtain ⟨c2, hm⟩ := z_chk_some hm
  refine z_iald C dX6_cells_11 2 rfl c2 (z_k 1 rfl) ?_
  obtain ⟨c3, hm⟩ := z_chk_some hm
  refine z_imul C dX6_cells_12 ?_
  cases hm
  exact z_iret C E dX6_cells_13 ⟨rfl, rfl, c3, trivial⟩
set_option maxRecDepth 100000 in
theorem k_X6_isCell (l : Launch) (G : z_G) (N : Nat) (r_o r_Atext r_Atold r_Adraft r_Abegun r_As r_Apast r_Aimages r_Arings r_Astates r_Aheld r_Ahere r_Athere : Nat) (r_text : (Int → Int)) (r_typed : Int) (r_told : (Int → Int)) (r_draft : (Int → Int)) (r_begun : (Int → Int)) (r_s : (Int → Int)) (r_past : (Int → Int)) (r_known : Int) (r_images : (Int → Int)) (r_kept : Int) (r_rings : (Int → Int)) (r_rung : Int) (r_at : Int) (r_states : (Int → Int)) (r_held : (Int → Int)) (r_here : (Int → Int)) (r_there : (Int → Int)) (x1 : Int) (h_r_text : z_r r_text) (h_r_typed : z_n r_typed) (h_r_told : z_r r_told) (h_r_draft : z_r r_draft) (h_r_begun : z_r r_begun) (h_r_s : z_r r_s) (h_r_past : z_r r_past) (h_r_known : z_n r_known) (h_r_images : z_r r_images) (h_r_kept : z_n r_kept) (h_r_rings : z_r r_rings) (h_r_rung : z_n r_rung) (h_r_at : z_n r_at) (h_r_states : z_r r_states) (h_r_held : z_r r_held) (h_r_here : z_r r_here) (h_r_there : z_r r_there) (h_x1 : z_n x1) (rr : Int) (hm : m_X6_isCell N r_told x1 = some (rr)) : z_M l G yX6_isCell cX6_isCell 2 (some .boolean) (k2_rm 1 22) [.ref r_o, z_i x1] ([(r_o, z_o 6 [.ref r_Atext, z_i r_typed, .ref r_Atold, .ref r_Adraft, .ref r_Abegun, .ref r_As, .ref r_Apast, z_i r_known, .ref r_Aimages, z_i r_kept, .ref r_Arings, z_i r_rung, z_i r_at, .ref r_Astates, .ref r_Aheld, .ref r_Ahere, .ref r_Athere]), (r_Atext, z_a G.2.1 200 r_text), (r_Atold, z_a G.2.1 39 r_told), (r_Adraft, z_a G.2.1 39 r_draft), (r_Abegun, z_a G.2.1 73 r_begun), (r_As, z_a G.2.1 73 r_s), (r_Apast, z_a G.2.1 584 r_past), (r_Aimages, z_a G.2.1 146 r_images), (r_Arings, z_a G.2.1 6 r_rings), (r_Astates, z_a G.2.1 36 r_states), (r_Aheld, z_a G.2.1 73 r_held), (r_Ahere, z_a G.2.2.2.2 36 r_here), (r_Athere, z_a G.2.2.2.2 36 r_there)]) 0 0 (fun v w => v = some (z_i rr) ∧ w = [(r_o, z_o 6 [.ref r_Atext, z_i r_typed, .ref r_Atold, .ref r_Adraft, .ref r_Abegun, .ref r_As, .ref r_Apast, z_i r_known, .ref r_Aimages, z_i r_kept, .ref r_Arings, z_i r_rung, z_i r_at, .ref r_Astates, .ref r_Aheld, .ref r_Ahere, .ref r_Athere]), (r_Atext, z_a G.2.1 200 r_text), (r_Atold, z_a G.2.1 39 r_told), (r_Adraft, z_a G.2.1 39 r_draft), (r_Abegun, z_a G.2.1 73 r_begun), (r_As, z_a G.2.1 73 r_s), (r_Apast, z_a G.2.1 584 r_past), (r_Aimages, z_a G.2.1 146 r_images), (r_Arings, z_a G.2.1 6 r_rings), (r_Astates, z_a G.2.1 36 r_states), (r_Aheld, z_a G.2.1 73 r_held), (r_Ahere, z_a G.2.2.2.2 36 r_here), (r_Athere, z_a G.2.2.2.2 36 r_there)] ∧ (rr = 0 ∨ rr = 1) ∧ True) := by
  unfold m_X6_isCell at hm
  refine z_M.intro (by decide +kernel) (Nat.le_of_ble_eq_true rfl) (L := [(0, .ref r_o), (1, z_i x1)]) rfl (fun X C E => ?_)
  refine z_iload_n C dX6_isCell_0 1 rfl ?_
  refine z_iconst C dX6_isCell_1 ?_
  refine z_aload_n C dX6_isCell_2 0 rfl ?_
  obtain ⟨r1, k2, hm⟩ := z_b1s hm
  refine z_callVid C (k_X6_cells l G N r_o r_Atext r_Atold r_Adraft r_Abegun r_As r_Apast r_Aimages r_Arings r_Astates r_Aheld r_Ahere r_Athere r_text r_typed r_told r_draft r_begun r_s r_past r_known r_images r_kept r_rings r_rung r_at r_states r_held r_here r_there h_r_text h_r_typed h_r_told h_r_draft h_r_begun h_r_s h_r_past h_r_known h_r_images h_r_kept h_r_rings h_r_rung h_r_at h_r_states h_r_held h_r_here h_r_there r1 k2) zv_X6_cells zl_X6_53 dX6_isCell_3 rfl 0 rfl rfl rfl [z_i 0, z_i x1] rfl (Nat.le_of_ble_eq_true rfl) ⟨Nat.le_of_ble_eq_true rfl, Nat.le_of_ble_eq_true rfl⟩ ⟨rfl, rfl⟩ ⟨Nat.zero_le _, Nat.zero_le _⟩ (fun hF => ?_)
  obtain ⟨h_r1, -⟩ := hF
  refine z_iconst C dX6_isCell_6 ?_
  obtain ⟨c3, hm⟩ := z_chk_some hm
  refine z_isub C dX6_isCell_7 ?_
  obtain ⟨r4, k5, hm⟩ := z_b1s hm
  refine z_callSi C (k_X6_in l G N x1 0 (r1 - 1) h_x1 (z_k 0 rfl) c3 r4 k5) zs_X6_in zl_X6_57 dX6_isCell_8 [] rfl rfl rfl (ws' := [(r_o, z_o 6 [.ref r_Atext, z_i r_typed, .ref r_Atold, .ref r_Adraft, .ref r_Abegun, .ref r_As, .ref r_Apast, z_i r_known, .ref r_Aimages, z_i r_kept, .ref r_Arings, z_i r_rung, z_i r_at, .ref r_Astates, .ref r_Aheld, .ref r_Ahere, .ref r_Athere]), (r_Atext, z_a G.2.1 200 r_text), (r_Atold, z_a G.2.1 39 r_told), (r_Adraft, z_a G.2.1 39 r_draft), (r_Abegun, z_a G.2.1 73 r_begun), (r_As, z_a G.2.1 73 r_s), (r_Apast, z_a G.2.1 584 r_past), (r_Aimages, z_a G.2.1 146 r_images), (r_Arings, z_a G.2.1 6 r_rings), (r_Astates, z_a G.2.1 36 r_states), (r_Aheld, z_a G.2.1 73 r_held), (r_Ahere, z_a G.2.2.2.2 36 r_here), (r_Athere, z_a G.2.2.2.2 36 r_there)]) rfl rfl [] rfl (Nat.le_of_ble_eq_true rfl) ⟨Nat.le_of_ble_eq_true rfl, Nat.le_of_ble_eq_true rfl⟩ ⟨rfl, rfl⟩ ⟨Nat.zero_le _, Nat.zero_le _⟩ (fun hF => ?_)
  obtain ⟨hb_r4, -⟩ := hF
  cases hm
  exact z_zret C E hb_r4 dX6_isCell_11 ⟨rfl, rfl, hb_r4, trivial⟩
set_option maxRecDepth 100000 in
theorem k_X6_beside (l : Launch) (G : z_G) (N : Nat) (r_o r_Atext r_Atold r_Adraft r_Abegun r_As r_Apast r_Aimages r_Arings r_Astates r_Aheld r_Ahere r_Athere : Nat) (r_text : (Int → Int)) (r_typed : Int) (r_told : (Int → Int)) (r_draft : (Int → Int)) (r_begun : (Int → Int)) (r_s : (Int → Int)) (r_past : (Int → Int)) (r_known : Int) (r_images : (Int → Int)) (r_kept : Int) (r_rings : (Int → Int)) (r_rung : Int) (r_at : Int) (r_states : (Int → Int)) (r_held : (Int → Int)) (r_here : (Int → Int)) (r_there : (Int → Int)) (x1 : Int) (x2 : Int) (h_r_text : z_r r_text) (h_r_typed : z_n r_typed) (h_r_told : z_r r_told) (h_r_draft : z_r r_draft) (h_r_begun : z_r r_begun) (h_r_s : z_r r_s) (h_r_past : z_r r_past) (h_r_known : z_n r_known) (h_r_images : z_r r_images) (h_r_kept : z_n r_kept) (h_r_rings : z_r r_rings) (h_r_rung : z_n r_rung) (h_r_at : z_n r_at) (h_r_states : z_r r_states) (h_r_held : z_r r_held) (h_r_here : z_r r_here) (h_r_there : z_r r_there) (h_x1 : z_n x1) (h_x2 : z_n x2) (rr : Int) (hm : m_X6_beside N r_told x1 x2 = some (rr)) : z_M l G yX6_beside cX6_beside 6 (some .int) (k2_rm 2 43) [.ref r_o, z_i x1, z_i x2] ([(r_o, z_o 6 [.ref r_Atext, z_i r_typed, .ref r_Atold, .ref r_Adraft, .ref r_Abegun, .ref r_As, .ref r_Apast, z_i r_known, .ref r_Aimages, z_i r_kept, .ref r_Arings, z_i r_rung, z_i r_at, .ref r_Astates, .ref r_Aheld, .ref r_Ahere, .ref r_Athere]), (r_Atext, z_a G.2.1 200 r_text), (r_Atold, z_a G.2.1 39 r_told), (r_Adraft, z_a G.2.1 39 r_draft), (r_Abegun, z_a G.2.1 73 r_begun), (r_As, z_a G.2.1 73 r_s), (r_Apast, z_a G.2.1 584 r_past), (r_Aimages, z_a G.2.1 146 r_images), (r_Arings, z_a G.2.1 6 r_rings), (r_Astates, z_a G.2.1 36 r_states), (r_Aheld, z_a G.2.1 73 r_held), (r_Ahere, z_a G.2.2.2.2 36 r_here), (r_Athere, z_a G.2.2.2.2 36 r_there)]) 0 0 (fun v w => v = some (z_i rr) ∧ w = [(r_o, z_o 6 [.ref r_Atext, z_i r_typed, .ref r_Atold, .ref r_Adraft, .ref r_Abegun, .ref r_As, .ref r_Apast, z_i r_known, .ref r_Aimages, z_i r_kept, .ref r_Arings, z_i r_rung, z_i r_at, .ref r_Astates, .ref r_Aheld, .ref r_Ahere, .ref r_Athere]), (r_Atext, z_a G.2.1 200 r_text), (r_Atold, z_a G.2.1 39 r_told), (r_Adraft, z_a G.2.1 39 r_draft), (r_Abegun, z_a G.2.1 73 r_begun), (r_As, z_a G.2.1 73 r_s), (r_Apast, z_a G.2.1 584 r_past), (r_Aimages, z_a G.2.1 146 r_images), (r_Arings, z_a G.2.1 6 r_rings), (r_Astates, z_a G.2.1 36 r_states), (r_Aheld, z_a G.2.1 73 r_held), (r_Ahere, z_a G.2.2.2.2 36 r_here), (r_Athere, z_a G.2.2.2.2 36 r_there)] ∧ z_n rr ∧ True) := by
  unfold m_X6_beside at hm
  refine z_M.intro (by decide +kernel) (Nat.le_of_ble_eq_true rfl) (L := [(0, .ref r_o), (1, z_i x1), (2, z_i x2)]) rfl (fun X C E => ?_)
  refine z_aload_n C dX6_beside_0 0 rfl ?_
  refine z_get C zf_X6_13 dX6_beside_1 0 rfl rfl ?_
  refine z_iconst C dX6_beside_4 ?_
  obtain ⟨c1, hm⟩ := z_chk_some hm
  refine z_iald C dX6_beside_5 2 rfl c1 (z_k 1 rfl) ?_
  refine z_istore_n C dX6_beside_6 (by decide) (L' := [(3, z_i (r_told 1)), (0, .ref r_o), (1, z_i x1), (2, z_i x2)]) rfl ?_
  refine z_iload_n C dX6_beside_7 3 rfl ?_
  obtain ⟨s9, hj, hm⟩ := z_b1s hm
  have J10 : z_n s9 → z_J X 0 0 ([(r_o, z_o 6 [.ref r_Atext, z_i r_typed, .ref r_Atold, .ref r_Adraft, .ref r_Abegun, .ref r_As, .ref r_Apast, z_i r_known, .ref r_Aimages, z_i r_kept, .ref r_Arings, z_i r_rung, z_i r_at, .ref r_Astates, .ref r_Aheld, .ref r_Ahere, .ref r_Athere]), (r_Atext, z_a G.2.1 200 r_text), (r_Atold, z_a G.2.1 39 r_told), (r_Adraft, z_a G.2.1 39 r_draft), (r_Abegun, z_a G.2.1 73 r_begun), (r_As, z_a G.2.1 73 r_s), (r_Apast, z_a G.2.1 584 r_past), (r_Aimages, z_a G.2.1 146 r_images), (r_Arings, z_a G.2.1 6 r_rings), (r_Astates, z_a G.2.1 36 r_states), (r_Aheld, z_a G.2.1 73 r_held), (r_Ahere, z_a G.2.2.2.2 36 r_here), (r_Athere, z_a G.2.2.2.2 36 r_there)]) [(0, .ref r_o), (1, z_i x1), (2, z_i x2), (3, z_i (r_told 1))] 42 [z_i s9] := by
    intro h_s9
    clear hj
    refine z_istore C dX6_beside_42 (by decide) (L' := [(4, z_i s9), (0, .ref r_o), (1, z_i x1), (2, z_i x2), (3, z_i (r_told 1))]) rfl ?_
    refine z_aload_n C dX6_beside_44 1 rfl ?_
    refine z_iload C dX6_beside_45 0 rfl ?_
    obtain ⟨r11, k12, hm⟩ := z_b1s hm
    refine z_callVid C (k_X6_isCell l G N r_o r_Atext r_Atold r_Adraft r_Abegun r_As r_Apast r_Aimages r_Arings r_Astates r_Aheld r_Ahere r_Athere r_text r_typed r_told r_draft r_begun r_s r_past r_known r_images r_kept r_rings r_rung r_at r_states r_held r_here r_there s9 h_r_text h_r_typed h_r_told h_r_draft h_r_begun h_r_s h_r_past h_r_known h_r_images h_r_kept h_r_rings h_r_rung h_r_at h_r_states h_r_held h_r_here h_r_there h_s9 r11 k12) zv_X6_isCell zl_X6_98 dX6_beside_47 rfl 0 rfl rfl rfl [] rfl (Nat.le_of_ble_eq_true rfl) ⟨Nat.le_of_ble_eq_true rfl, Nat.le_of_ble_eq_true rfl⟩ ⟨rfl, rfl⟩ ⟨Nat.zero_le _, Nat.zero_le _⟩ (fun hF => ?_)
    obtain ⟨hb_r11, -⟩ := hF
    obtain ⟨s24, hj, hm⟩ := z_b1s hm
    have J25 : z_n s24 → (s24 = 0 ∨ s24 = 1) → z_J X 0 0 ([(r_o, z_o 6 [.ref r_Atext, z_i r_typed, .ref r_Atold, .ref r_Adraft, .ref r_Abegun, .ref r_As, .ref r_Apast, z_i r_known, .ref r_Aimages, z_i r_kept, .ref r_Arings, z_i r_rung, z_i r_at, .ref r_Astates, .ref r_Aheld, .ref r_Ahere, .ref r_Athere]), (r_Atext, z_a G.2.1 200 r_text), (r_Atold, z_a G.2.1 39 r_told), (r_Adraft, z_a G.2.1 39 r_draft), (r_Abegun, z_a G.2.1 73 r_begun), (r_As, z_a G.2.1 73 r_s), (r_Apast, z_a G.2.1 584 r_past), (r_Aimages, z_a G.2.1 146 r_images), (r_Arings, z_a G.2.1 6 r_rings), (r_Astates, z_a G.2.1 36 r_states), (r_Aheld, z_a G.2.1 73 r_held), (r_Ahere, z_a G.2.2.2.2 36 r_here), (r_Athere, z_a G.2.2.2.2 36 r_there)]) [(0, .ref r_o), (4, z_i s9)] 82 [z_i s24] := by
      intro h_s24 hb_s24
      clear hj
      refine z_istore C dX6_beside_82 (by decide) (L' := [(5, z_i s24), (0, .ref r_o), (4, z_i s9)]) rfl ?_
      refine z_iload C dX6_beside_84 0 rfl ?_
      refine z_if_eq (tgt := 107) C h_s24 dX6_beside_86 (by decide) (fun c26 => ?_) (fun c26 => ?_)
      · have hm := z_pos c26 hm
        refine z_iconst C dX6_beside_107 ?_
        cases hm
        exact z_iret C E dX6_beside_108 ⟨rfl, rfl, (z_k (-1) rfl), trivial⟩
      · have hm := z_neg c26 hm
        refine z_aload_n C dX6_beside_89 1 rfl ?_
        refine z_get C zf_X6_13 dX6_beside_90 0 rfl rfl ?_
        refine z_iconst C dX6_beside_93 ?_
        refine z_iload C dX6_beside_94 2 rfl ?_
        obtain ⟨c27, hm⟩ := z_chk_some hm
        refine z_iadd C dX6_beside_96 ?_
        obtain ⟨c28, hm⟩ := z_chk_some hm
        refine z_iald C dX6_beside_97 2 rfl c28 c27 ?_
        refine z_iconst C dX6_beside_98 ?_
        refine z_icmp_eq (tgt := 107) C (h_r_told _) (z_k 3 rfl) dX6_beside_99 (by decide) (fun c29 => ?_) (fun c29 => ?_)
        · have hm := z_pos c29 hm
          refine z_iconst C dX6_beside_107 ?_
          cases hm
          exact z_iret C E dX6_beside_108 ⟨rfl, rfl, (z_k (-1) rfl), trivial⟩
        · have hm := z_neg c29 hm
          refine z_iload C dX6_beside_102 2 rfl ?_
          refine z_goto (tgt := 108) C dX6_beside_104 (by decide) ?_
          cases hm
          exact z_iret C E dX6_beside_108 ⟨rfl, rfl, h_s9, trivial⟩
    replace hm := hj
    clear hj
    refine z_if_eq (tgt := 81) C (z_n01 hb_r11) dX6_beside_50 (by decide) (fun c13 => ?_) (fun c13 => ?_)
    · have hm := z_pos c13 hm
      refine z_iconst C dX6_beside_81 ?_
      refine z_sub (L' := [(0, .ref r_o), (4, z_i s9)]) [1, 0] rfl ?_
      cases hm
      exact J25 (z_k 0 rfl) (Or.inl rfl)
    · have hm := z_neg c13 hm
      refine z_iload_n C dX6_beside_53 3 rfl ?_
      refine z_iconst C dX6_beside_54 ?_
      refine z_icmp_lt (tgt := 68) C h_x2 (z_k 2 rfl) dX6_beside_55 (by decide) (fun c14 => ?_) (fun c14 => ?_)
      · have hm := z_pos c14 hm
        refine z_iload_n C dX6_beside_68 3 rfl ?_
        refine z_iconst C dX6_beside_69 ?_
        refine z_icmp_lt (tgt := 77) C h_x2 (z_k 3 rfl) dX6_beside_70 (by decide) (fun c15 => ?_) (fun c15 => ?_)
        · have hm := z_pos c15 hm
          refine z_iconst C dX6_beside_77 ?_
          refine z_goto (tgt := 82) C dX6_beside_78 (by decide) ?_
          refine z_sub (L' := [(0, .ref r_o), (4, z_i s9)]) [1, 0] rfl ?_
          cases hm
          exact J25 (z_k 1 rfl) (Or.inr rfl)
        · have hm := z_neg c15 hm
          refine z_iload_n C dX6_beside_73 2 rfl ?_
          refine z_if_le (tgt := 81) C h_x1 dX6_beside_74 (by decide) (fun c16 => ?_) (fun c16 => ?_)
          · have hm := z_pos c16 hm
            refine z_iconst C dX6_beside_81 ?_
            refine z_sub (L' := [(0, .ref r_o), (4, z_i s9)]) [1, 0] rfl ?_
            cases hm
            exact J25 (z_k 0 rfl) (Or.inl rfl)
          · have hm := z_neg c16 hm
            refine z_iconst C dX6_beside_77 ?_
            refine z_goto (tgt := 82) C dX6_beside_78 (by decide) ?_
            refine z_sub (L' := [(0, .ref r_o), (4, z_i s9)]) [1, 0] rfl ?_
            cases hm
            exact J25 (z_k 1 rfl) (Or.inr rfl)
      · have hm := z_neg c14 hm
        refine z_iload C dX6_beside_58 0 rfl ?_
        refine z_iload_n C dX6_beside_60 4 rfl ?_
        obtain ⟨c17, hm⟩ := z_chk_some hm
        obtain ⟨c18, hm⟩ := z_chk_some hm
        refine z_idiv C h_s9 (h_r_told _) c17 dX6_beside_61 ?_
        refine z_iload_n C dX6_beside_62 2 rfl ?_
        refine z_iload_n C dX6_beside_63 4 rfl ?_
        obtain ⟨c19, hm⟩ := z_chk_some hm
        obtain ⟨c20, hm⟩ := z_chk_some hm
        refine z_idiv C h_x1 (h_r_told _) c19 dX6_beside_64 ?_
        refine z_icmp_ne (tgt := 81) C c18 c20 dX6_beside_65 (by decide) (fun c21 => ?_) (fun c21 => ?_)
        · have hm := z_pos c21 hm
          refine z_iconst C dX6_beside_81 ?_
          refine z_sub (L' := [(0, .ref r_o), (4, z_i s9)]) [1, 0] rfl ?_
          cases hm
          exact J25 (z_k 0 rfl) (Or.inl rfl)
        · have hm := z_neg c21 hm
          refine z_iload_n C dX6_beside_68 3 rfl ?_
          refine z_iconst C dX6_beside_69 ?_
          refine z_icmp_lt (tgt := 77) C h_x2 (z_k 3 rfl) dX6_beside_70 (by decide) (fun c22 => ?_) (fun c22 => ?_)
          · have hm := z_pos c22 hm
            refine z_iconst C dX6_beside_77 ?_
            refine z_goto (tgt := 82) C dX6_beside_78 (by decide) ?_
            refine z_sub (L' := [(0, .ref r_o), (4, z_i s9)]) [1, 0] rfl ?_
            cases hm
            exact J25 (z_k 1 rfl) (Or.inr rfl)
          · have hm := z_neg c22 hm
            refine z_iload_n C dX6_beside_73 2 rfl ?_
            refine z_if_le (tgt := 81) C h_x1 dX6_beside_74 (by decide) (fun c23 => ?_) (fun c23 => ?_)
            · have hm := z_pos c23 hm
              refine z_iconst C dX6_beside_81 ?_
              refine z_sub (L' := [(0, .ref r_o), (4, z_i s9)]) [1, 0] rfl ?_
              cases hm
              exact J25 (z_k 0 rfl) (Or.inl rfl)
            · have hm := z_neg c23 hm
              refine z_iconst C dX6_beside_77 ?_
              refine z_goto (tgt := 82) C dX6_beside_78 (by decide) ?_
              refine z_sub (L' := [(0, .ref r_o), (4, z_i s9)]) [1, 0] rfl ?_
              cases hm
              exact J25 (z_k 1 rfl) (Or.inr rfl)
  replace hm := hj
  clear hj
  refine z_if_ne (tgt := 17) C h_x2 dX6_beside_8 (by decide) (fun c2 => ?_) (fun c2 => ?_)
  · have hm := z_pos c2 hm
    refine z_iload_n C dX6_beside_17 3 rfl ?_
    refine z_iconst C dX6_beside_18 ?_
    refine z_icmp_ne (tgt := 28) C h_x2 (z_k 1 rfl) dX6_beside_19 (by decide) (fun c3 => ?_) (fun c3 => ?_)
    · have hm := z_pos c3 hm
      refine z_iload_n C dX6_beside_28 3 rfl ?_
      refine z_iconst C dX6_beside_29 ?_
      refine z_icmp_ne (tgt := 39) C h_x2 (z_k 2 rfl) dX6_beside_30 (by decide) (fun c4 => ?_) (fun c4 => ?_)
      · have hm := z_pos c4 hm
        refine z_iload_n C dX6_beside_39 2 rfl ?_
        refine z_iconst C dX6_beside_40 ?_
        obtain ⟨c5, hm⟩ := z_chk_some hm
        refine z_isub C dX6_beside_41 ?_
        refine z_sub (L' := [(0, .ref r_o), (1, z_i x1), (2, z_i x2), (3, z_i (r_told 1))]) [1, 2, 3, 0] rfl ?_
        cases hm
        exact J10 c5
      · have hm := z_neg c4 hm
        refine z_iload_n C dX6_beside_33 2 rfl ?_
        refine z_iconst C dX6_beside_34 ?_
        obtain ⟨c6, hm⟩ := z_chk_some hm
        refine z_iadd C dX6_beside_35 ?_
        refine z_goto (tgt := 42) C dX6_beside_36 (by decide) ?_
        refine z_sub (L' := [(0, .ref r_o), (1, z_i x1), (2, z_i x2), (3, z_i (r_told 1))]) [1, 2, 3, 0] rfl ?_
        cases hm
        exact J10 c6
    · have hm := z_neg c3 hm
      refine z_iload_n C dX6_beside_22 2 rfl ?_
      refine z_iload_n C dX6_beside_23 0 rfl ?_
      obtain ⟨c7, hm⟩ := z_chk_some hm
      refine z_iadd C dX6_beside_24 ?_
      refine z_goto (tgt := 42) C dX6_beside_25 (by decide) ?_
      refine z_sub (L' := [(0, .ref r_o), (1, z_i x1), (2, z_i x2), (3, z_i (r_told 1))]) [1, 2, 3, 0] rfl ?_
      cases hm
      exact J10 c7
  · have hm := z_neg c2 hm
    refine z_iload_n C dX6_beside_11 2 rfl ?_
    refine z_iload_n C dX6_beside_12 0 rfl ?_
    obtain ⟨c8, hm⟩ := z_chk_some hm
    refine z_isub C dX6_beside_13 ?_
    refine z_goto (tgt := 42) C dX6_beside_14 (by decide) ?_
    refine z_sub (L' := [(0, .ref r_o), (1, z_i x1), (2, z_i x2), (3, z_i (r_told 1))]) [1, 2, 3, 0] rfl ?_
    cases hm
    exact J10 c8
set_option maxRecDepth 100000 in
theorem k_X6_level (l : Launch) (G : z_G) (N : Nat) (r_o r_Atext r_Atold r_Adraft r_Abegun r_As r_Apast r_Aimages r_Arings r_Astates r_Aheld r_Ahere r_Athere : Nat) (r_text : (Int → Int)) (r_typed : Int) (r_told : (Int → Int)) (r_draft : (Int → Int)) (r_begun : (Int → Int)) (r_s : (Int → Int)) (r_past : (Int → Int)) (r_known : Int) (r_images : (Int → Int)) (r_kept : Int) (r_rings : (Int → Int)) (r_rung : Int) (r_at : Int) (r_states : (Int → Int)) (r_held : (Int → Int)) (r_here : (Int → Int)) (r_there : (Int → Int)) (x1 : Int) (h_r_text : z_r r_text) (h_r_typed : z_n r_typed) (h_r_told : z_r r_told) (h_r_draft : z_r r_draft) (h_r_begun : z_r r_begun) (h_r_s : z_r r_s) (h_r_past : z_r r_past) (h_r_known : z_n r_known) (h_r_images : z_r r_images) (h_r_kept : z_n r_kept) (h_r_rings : z_r r_rings) (h_r_rung : z_n r_rung) (h_r_at : z_n r_at) (h_r_states : z_r r_states) (h_r_held : z_r r_held) (h_r_here : z_r r_here) (h_r_there : z_r r_there) (h_x1 : z_n x1) (rr : Int) (hm : m_X6_level N r_s x1 = some (rr)) : z_M l G yX6_level cX6_level 2 (some .int) (k2_rm 0 0) [.ref r_o, z_i x1] ([(r_o, z_o 6 [.ref r_Atext, z_i r_typed, .ref r_Atold, .ref r_Adraft, .ref r_Abegun, .ref r_As, .ref r_Apast, z_i r_known, .ref r_Aimages, z_i r_kept, .ref r_Arings, z_i r_rung, z_i r_at, .ref r_Astates, .ref r_Aheld, .ref r_Ahere, .ref r_Athere]), (r_Atext, z_a G.2.1 200 r_text), (r_Atold, z_a G.2.1 39 r_told), (r_Adraft, z_a G.2.1 39 r_draft), (r_Abegun, z_a G.2.1 73 r_begun), (r_As, z_a G.2.1 73 r_s), (r_Apast, z_a G.2.1 584 r_past), (r_Aimages, z_a G.2.1 146 r_images), (r_Arings, z_a G.2.1 6 r_rings), (r_Astates, z_a G.2.1 36 r_states), (r_Aheld, z_a G.2.1 73 r_held), (r_Ahere, z_a G.2.2.2.2 36 r_here), (r_Athere, z_a G.2.2.2.2 36 r_there)]) 0 0 (fun v w => v = some (z_i rr) ∧ w = [(r_o, z_o 6 [.ref r_Atext, z_i r_typed, .ref r_Atold, .ref r_Adraft, .ref r_Abegun, .ref r_As, .ref r_Apast, z_i r_known, .ref r_Aimages, z_i r_kept, .ref r_Arings, z_i r_rung, z_i r_at, .ref r_Astates, .ref r_Aheld, .ref r_Ahere, .ref r_Athere]), (r_Atext, z_a G.2.1 200 r_text), (r_Atold, z_a G.2.1 39 r_told), (r_Adraft, z_a G.2.1 39 r_draft), (r_Abegun, z_a G.2.1 73 r_begun), (r_As, z_a G.2.1 73 r_s), (r_Apast, z_a G.2.1 584 r_past), (r_Aimages, z_a G.2.1 146 r_images), (r_Arings, z_a G.2.1 6 r_rings), (r_Astates, z_a G.2.1 36 r_states), (r_Aheld, z_a G.2.1 73 r_held), (r_Ahere, z_a G.2.2.2.2 36 r_here), (r_Athere, z_a G.2.2.2.2 36 r_there)] ∧ z_n rr ∧ True) := by
  unfold m_X6_level at hm
  refine z_M.intro (by decide +kernel) (Nat.le_of_ble_eq_true rfl) (L := [(0, .ref r_o), (1, z_i x1)]) rfl (fun X C E => ?_)
  refine z_aload_n C dX6_level_0 0 rfl ?_
  refine z_get C zf_X6_22 dX6_level_1 0 rfl rfl ?_
  refine z_bipush C dX6_level_4 (by decide) ?_
  refine z_iload_n C dX6_level_6 1 rfl ?_
  obtain ⟨c1, hm⟩ := z_chk_some hm
  refine z_iadd C dX6_level_7 ?_
  obtain ⟨c2, hm⟩ := z_chk_some hm
  refine z_iald C dX6_level_8 5 rfl c2 c1 ?_
  refine z_aload_n C dX6_level_9 0 rfl ?_
  refine z_get C zf_X6_22 dX6_level_10 0 rfl rfl ?_
  refine z_iload_n C dX6_level_13 1 rfl ?_
  obtain ⟨c3, hm⟩ := z_chk_some hm
  refine z_iald C dX6_level_14 5 rfl c3 h_x1 ?_
  obtain ⟨c4, hm⟩ := z_chk_some hm
  refine z_iadd C dX6_level_15 ?_
  cases hm
  exact z_iret C E dX6_level_16 ⟨rfl, rfl, c4, trivial⟩
set_option maxRecDepth 100000 in
theorem k_X6_drops (l : Launch) (G : z_G) (N : Nat) (r_o r_Atext r_Atold r_Adraft r_Abegun r_As r_Apast r_Aimages r_Arings r_Astates r_Aheld r_Ahere r_Athere : Nat) (r_text : (Int → Int)) (r_typed : Int) (r_told : (Int → Int)) (r_draft : (Int → Int)) (r_begun : (Int → Int)) (r_s : (Int → Int)) (r_past : (Int → Int)) (r_known : Int) (r_images : (Int → Int)) (r_kept : Int) (r_rings : (Int → Int)) (r_rung : Int) (r_at : Int) (r_states : (Int → Int)) (r_held : (Int → Int)) (r_here : (Int → Int)) (r_there : (Int → Int)) (x1 : Int) (x2 : Int) (h_r_text : z_r r_text) (h_r_typed : z_n r_typed) (h_r_told : z_r r_told) (h_r_draft : z_r r_draft) (h_r_begun : z_r r_begun) (h_r_s : z_r r_s) (h_r_past : z_r r_past) (h_r_known : z_n r_known) (h_r_images : z_r r_images) (h_r_kept : z_n r_kept) (h_r_rings : z_r r_rings) (h_r_rung : z_n r_rung) (h_r_at : z_n r_at) (h_r_states : z_r r_states) (h_r_held : z_r r_held) (h_r_here : z_r r_here) (h_r_there : z_r r_there) (h_x1 : z_n x1) (h_x2 : z_n x2) (q_r_s : (Int → Int)) (hm : m_X6_drops N r_told r_s x1 x2 = some (q_r_s)) : z_M l G yX6_drops cX6_drops 3 none (k2_rm 0 0) [.ref r_o, z_i x1, z_i x2] ([(r_o, z_o 6 [.ref r_Atext, z_i r_typed, .ref r_Atold, .ref r_Adraft, .ref r_Abegun, .ref r_As, .ref r_Apast, z_i r_known, .ref r_Aimages, z_i r_kept, .ref r_Arings, z_i r_rung, z_i r_at, .ref r_Astates, .ref r_Aheld, .ref r_Ahere, .ref r_Athere]), (r_Atext, z_a G.2.1 200 r_text), (r_Atold, z_a G.2.1 39 r_told), (r_Adraft, z_a G.2.1 39 r_draft), (r_Abegun, z_a G.2.1 73 r_begun), (r_As, z_a G.2.1 73 r_s), (r_Apast, z_a G.2.1 584 r_past), (r_Aimages, z_a G.2.1 146 r_images), (r_Arings, z_a G.2.1 6 r_rings), (r_Astates, z_a G.2.1 36 r_states), (r_Aheld, z_a G.2.1 73 r_held), (r_Ahere, z_a G.2.2.2.2 36 r_here), (r_Athere, z_a G.2.2.2.2 36 r_there)]) 0 0 (fun v w => v = none ∧ w = [(r_o, z_o 6 [.ref r_Atext, z_i r_typed, .ref r_Atold, .ref r_Adraft, .ref r_Abegun, .ref r_As, .ref r_Apast, z_i r_known, .ref r_Aimages, z_i r_kept, .ref r_Arings, z_i r_rung, z_i r_at, .ref r_Astates, .ref r_Aheld, .ref r_Ahere, .ref r_Athere]), (r_Atext, z_a G.2.1 200 r_text), (r_Atold, z_a G.2.1 39 r_told), (r_Adraft, z_a G.2.1 39 r_draft), (r_Abegun, z_a G.2.1 73 r_begun), (r_As, z_a G.2.1 73 q_r_s), (r_Apast, z_a G.2.1 584 r_past), (r_Aimages, z_a G.2.1 146 r_images), (r_Arings, z_a G.2.1 6 r_rings), (r_Astates, z_a G.2.1 36 r_states), (r_Aheld, z_a G.2.1 73 r_held), (r_Ahere, z_a G.2.2.2.2 36 r_here), (r_Athere, z_a G.2.2.2.2 36 r_there)] ∧ z_r q_r_s ∧ True) := by
  unfold m_X6_drops at hm
  refine z_M.intro (by decide +kernel) (Nat.le_of_ble_eq_true rfl) (L := [(0, .ref r_o), (1, z_i x1), (2, z_i x2)]) rfl (fun X C E => ?_)
  refine z_aload_n C dX6_drops_0 0 rfl ?_
  refine z_get C zf_X6_22 dX6_drops_1 0 rfl rfl ?_
  refine z_iload_n C dX6_drops_4 1 rfl ?_
  refine z_dup2 C rfl rfl dX6_drops_5 ?_
  obtain ⟨c1, hm⟩ := z_chk_some hm
  refine z_iald C dX6_drops_6 5 rfl c1 h_x1 ?_
  refine z_iconst C dX6_drops_7 ?_
  obtain ⟨c2, hm⟩ := z_chk_some hm
  refine z_isub C dX6_drops_8 ?_
  obtain ⟨c3, hm⟩ := z_chk_some hm
  refine z_iast C dX6_drops_9 5 rfl c3 h_x1 (ws' := [(r_o, z_o 6 [.ref r_Atext, z_i r_typed, .ref r_Atold, .ref r_Adraft, .ref r_Abegun, .ref r_As, .ref r_Apast, z_i r_known, .ref r_Aimages, z_i r_kept, .ref r_Arings, z_i r_rung, z_i r_at, .ref r_Astates, .ref r_Aheld, .ref r_Ahere, .ref r_Athere]), (r_Atext, z_a G.2.1 200 r_text), (r_Atold, z_a G.2.1 39 r_told), (r_Adraft, z_a G.2.1 39 r_draft), (r_Abegun, z_a G.2.1 73 r_begun), (r_As, z_a G.2.1 73 (z_up r_s x1 ((r_s x1) - 1))), (r_Apast, z_a G.2.1 584 r_past), (r_Aimages, z_a G.2.1 146 r_images), (r_Arings, z_a G.2.1 6 r_rings), (r_Astates, z_a G.2.1 36 r_states), (r_Aheld, z_a G.2.1 73 r_held), (r_Ahere, z_a G.2.2.2.2 36 r_here), (r_Athere, z_a G.2.2.2.2 36 r_there)]) rfl ?_
  refine z_aload_n C dX6_drops_10 0 rfl ?_
  refine z_get C zf_X6_22 dX6_drops_11 0 rfl rfl ?_
  refine z_iload_n C dX6_drops_14 2 rfl ?_
  refine z_dup2 C rfl rfl dX6_drops_15 ?_
  obtain ⟨c4, hm⟩ := z_chk_some hm
  refine z_iald C dX6_drops_16 5 rfl c4 h_x2 ?_
  refine z_aload_n C dX6_drops_17 0 rfl ?_
  refine z_get C zf_X6_13 dX6_drops_18 0 rfl rfl ?_
  refine z_iconst C dX6_drops_21 ?_
  refine z_iload_n C dX6_drops_22 2 rfl ?_
  obtain ⟨c5, hm⟩ := z_chk_some hm
  refine z_iadd C dX6_drops_23 ?_
  obtain ⟨c6, hm⟩ := z_chk_some hm
  refine z_iald C dX6_drops_24 2 rfl c6 c5 ?_
  refine z_iconst C dX6_drops_25 ?_
  refine z_icmp_eq (tgt := 44) C (h_r_told _) (z_k 2 rfl) dX6_drops_26 (by decide) (fun c7 => ?_) (fun c7 => ?_)
  · have hm := z_pos c7 hm
    refine z_iconst C dX6_drops_44 ?_
    obtain ⟨c8, hm⟩ := z_chk_some hm
    refine z_iadd C dX6_drops_45 ?_
    obtain ⟨c9, hm⟩ := z_chk_some hm
    refine z_iast C dX6_drops_46 5 rfl c9 h_x2 (ws' := [(r_o, z_o 6 [.ref r_Atext, z_i r_typed, .ref r_Atold, .ref r_Adraft, .ref r_Abegun, .ref r_As, .ref r_Apast, z_i r_known, .ref r_Aimages, z_i r_kept, .ref r_Arings, z_i r_rung, z_i r_at, .ref r_Astates, .ref r_Aheld, .ref r_Ahere, .ref r_Athere]), (r_Atext, z_a G.2.1 200 r_text), (r_Atold, z_a G.2.1 39 r_told), (r_Adraft, z_a G.2.1 39 r_draft), (r_Abegun, z_a G.2.1 73 r_begun), (r_As, z_a G.2.1 73 (z_up (z_up r_s x1 ((r_s x1) - 1)) x2 (((z_up r_s x1 ((r_s x1) - 1)) x2) + 0))), (r_Apast, z_a G.2.1 584 r_past), (r_Aimages, z_a G.2.1 146 r_images), (r_Arings, z_a G.2.1 6 r_rings), (r_Astates, z_a G.2.1 36 r_states), (r_Aheld, z_a G.2.1 73 r_held), (r_Ahere, z_a G.2.2.2.2 36 r_here), (r_Athere, z_a G.2.2.2.2 36 r_there)]) rfl ?_
    cases hm
    exact z_vret C E dX6_drops_47 ⟨rfl, rfl, (z_r_up (z_r_up h_r_s c2) c8), trivial⟩
  · have hm := z_neg c7 hm
    refine z_aload_n C dX6_drops_29 0 rfl ?_
    refine z_get C zf_X6_22 dX6_drops_30 0 rfl rfl ?_
    refine z_iload_n C dX6_drops_33 2 rfl ?_
    obtain ⟨c10, hm⟩ := z_chk_some hm
    refine z_iald C dX6_drops_34 5 rfl c10 h_x2 ?_
    refine z_bipush C dX6_drops_35 (by decide) ?_
    refine z_icmp_ge (tgt := 44) C ((z_r_up h_r_s c2) _) (z_k 60 rfl) dX6_drops_37 (by decide) (fun c11 => ?_) (fun c11 => ?_)
    · have hm := z_pos c11 hm
      refine z_iconst C dX6_drops_44 ?_
      obtain ⟨c12, hm⟩ := z_chk_some hm
      refine z_iadd C dX6_drops_45 ?_
      obtain ⟨c13, hm⟩ := z_chk_some hm
      refine z_iast C dX6_drops_46 5 rfl c13 h_x2 (ws' := [(r_o, z_o 6 [.ref r_Atext, z_i r_typed, .ref r_Atold, .ref r_Adraft, .ref r_Abegun, .ref r_As, .ref r_Apast, z_i r_known, .ref r_Aimages, z_i r_kept, .ref r_Arings, z_i r_rung, z_i r_at, .ref r_Astates, .ref r_Aheld, .ref r_Ahere, .ref r_Athere]), (r_Atext, z_a G.2.1 200 r_text), (r_Atold, z_a G.2.1 39 r_told), (r_Adraft, z_a G.2.1 39 r_draft), (r_Abegun, z_a G.2.1 73 r_begun), (r_As, z_a G.2.1 73 (z_up (z_up r_s x1 ((r_s x1) - 1)) x2 (((z_up r_s x1 ((r_s x1) - 1)) x2) + 0))), (r_Apast, z_a G.2.1 584 r_past), (r_Aimages, z_a G.2.1 146 r_images), (r_Arings, z_a G.2.1 6 r_rings), (r_Astates, z_a G.2.1 36 r_states), (r_Aheld, z_a G.2.1 73 r_held), (r_Ahere, z_a G.2.2.2.2 36 r_here), (r_Athere, z_a G.2.2.2.2 36 r_there)]) rfl ?_
      cases hm
      exact z_vret C E dX6_drops_47 ⟨rfl, rfl, (z_r_up (z_r_up h_r_s c2) c12), trivial⟩
    · have hm := z_neg c11 hm
      refine z_iconst C dX6_drops_40 ?_
      refine z_goto (tgt := 45) C dX6_drops_41 (by decide) ?_
      obtain ⟨c14, hm⟩ := z_chk_some hm
      refine z_iadd C dX6_drops_45 ?_
      obtain ⟨c15, hm⟩ := z_chk_some hm
      refine z_iast C dX6_drops_46 5 rfl c15 h_x2 (ws' := [(r_o, z_o 6 [.ref r_Atext, z_i r_typed, .ref r_Atold, .ref r_Adraft, .ref r_Abegun, .ref r_As, .ref r_Apast, z_i r_known, .ref r_Aimages, z_i r_kept, .ref r_Arings, z_i r_rung, z_i r_at, .ref r_Astates, .ref r_Aheld, .ref r_Ahere, .ref r_Athere]), (r_Atext, z_a G.2.1 200 r_text), (r_Atold, z_a G.2.1 39 r_told), (r_Adraft, z_a G.2.1 39 r_draft), (r_Abegun, z_a G.2.1 73 r_begun), (r_As, z_a G.2.1 73 (z_up (z_up r_s x1 ((r_s x1) - 1)) x2 (((z_up r_s x1 ((r_s x1) - 1)) x2) + 1))), (r_Apast, z_a G.2.1 584 r_past), (r_Aimages, z_a G.2.1 146 r_images), (r_Arings, z_a G.2.1 6 r_rings), (r_Astates, z_a G.2.1 36 r_states), (r_Aheld, z_a G.2.1 73 r_held), (r_Ahere, z_a G.2.2.2.2 36 r_here), (r_Athere, z_a G.2.2.2.2 36 r_there)]) rfl ?_
      cases hm
      exact z_vret C E dX6_drops_47 ⟨rfl, rfl, (z_r_up (z_r_up h_r_s c2) c14), trivial⟩
