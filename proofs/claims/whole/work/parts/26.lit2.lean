/-! the library's methods that the String constant is read with -/
set_option maxRecDepth 100000 in
theorem kl_ck3 (l : Launch) (G : z_G) (q v : Nat) (x : Int) (w : Value) (hw : w = .null ∨ ∃ t, w = .ref t) (hx : 0 ≤ x ∧ x < 70) : z_ML l G q v yJ3_checkIndex_8e157 cJ3_checkIndex_8e157 3 (some .int) (k2_rm 0 0) [z_i x, z_i 70, w] [] 0 0 (fun vv w => vv = some (z_i x) ∧ w = []) := by
  have nx : z_n x := by omega
  have e1 : (lg_sl [z_i x, z_i 70, w]).length ≤ 3 := by rcases hw with rfl | ⟨t, rfl⟩ <;> exact Nat.le_refl 3
  have e2 : lv_args 0 [z_i x, z_i 70, w] = [(0, z_i x), (1, z_i 70), (2, w)] := by rcases hw with rfl | ⟨t, rfl⟩ <;> rfl
  refine z_ML.intro (by decide +kernel) e1 e2 (fun X C E LX => ?_)
  refine z_iload_n C dJ3_checkIndex_8e157_0 0 rfl ?_
  refine z_if_lt (tgt := 9) C nx dJ3_checkIndex_8e157_1 (by decide) (fun c => by omega) (fun c => ?_)
  refine z_iload_n C dJ3_checkIndex_8e157_4 0 rfl ?_
  refine z_iload_n C dJ3_checkIndex_8e157_5 1 rfl ?_
  refine z_icmp_lt (tgt := 16) C nx (z_k 70 rfl) dJ3_checkIndex_8e157_6 (by decide) (fun c => ?_) (fun c => absurd hx.2 c)
  refine z_iload_n C dJ3_checkIndex_8e157_16 0 rfl ?_
  exact z_iret C E dJ3_checkIndex_8e157_17 ⟨rfl, rfl⟩
set_option maxRecDepth 100000 in
theorem kl_ck0 (l : Launch) (G : z_G) (q v : Nat) (x : Int) (hx : 0 ≤ x ∧ x < 70) : z_ML l G q v yJ0_checkIndex_df160 cJ0_checkIndex_df160 2 none (k2_rm 1 22) [z_i x, z_i 70] [] 0 0 (fun vv w => vv = none ∧ w = []) := by
  refine z_ML.intro (by decide +kernel) (Nat.le_of_ble_eq_true rfl) (L := [(0, z_i x), (1, z_i 70)]) rfl (fun X C E LX => ?_)
  refine z_iload_n C dJ0_checkIndex_df160_0 0 rfl ?_
  refine z_iload_n C dJ0_checkIndex_df160_1 1 rfl ?_
  refine z_getS C LX (z_mem 220 (by decide +kernel) rfl) dJ0_checkIndex_df160_2 (fun w hw => ?_)
  refine z_callSL C LX (kl_ck3 l G q v x w hw hx) zs_J3_checkIndex_8e157 (z_mem 222 (by decide +kernel) rfl) dJ0_checkIndex_df160_5 rfl [] rfl (Nat.le_of_ble_eq_true rfl) ⟨Nat.le_of_ble_eq_true rfl, Nat.le_of_ble_eq_true rfl⟩ ⟨rfl, rfl⟩ ⟨Nat.zero_le _, Nat.zero_le _⟩ ?_
  refine z_pop C rfl dJ0_checkIndex_df160_8 ?_
  exact z_vret C E dJ0_checkIndex_df160_9 ⟨rfl, rfl⟩
theorem s_txt_c : ∀ k : Nat, k < 70 → z_i2c (z_and (s_txt.getD k 0) 255) = s_txt.getD k 0 ∧ (32 ≤ s_txt.getD k 0 ∧ s_txt.getD k 0 ≤ 126) ∧ narrow .char (z_i (s_txt.getD k 0)) = z_i (s_txt.getD k 0) := by decide +kernel
set_option maxRecDepth 100000 in
theorem kl_ch1 (l : Launch) (G : z_G) (q v : Nat) (x : Int) (hx : 0 ≤ x ∧ x < 70) : z_ML l G q v yJ1_charAt_3b067 cJ1_charAt_3b067 2 (some .char) (k2_rm 2 43) [.ref v, z_i x] [] 0 0 (fun vv w => vv = some (z_i (s_txt.getD x.toNat 0)) ∧ w = []) := by
  obtain ⟨e1, e2, e3⟩ := s_txt_c x.toNat (by omega)
  refine z_ML.intro (by decide +kernel) (Nat.le_of_ble_eq_true rfl) (L := [(0, .ref v), (1, z_i x)]) rfl (fun X C E LX => ?_)
  refine z_iload_n C dJ1_charAt_3b067_0 1 rfl ?_
  refine z_aload_n C dJ1_charAt_3b067_1 0 rfl ?_
  refine z_blen C LX dJ1_charAt_3b067_2 ?_
  refine z_callSL C LX (kl_ck0 l G q v x hx) zs_J0_checkIndex_df160 (z_mem 217 (by decide +kernel) rfl) dJ1_charAt_3b067_3 rfl [] rfl (Nat.le_of_ble_eq_true rfl) ⟨Nat.le_of_ble_eq_true rfl, Nat.le_of_ble_eq_true rfl⟩ ⟨rfl, rfl⟩ ⟨Nat.zero_le _, Nat.zero_le _⟩ ?_
  refine z_aload_n C dJ1_charAt_3b067_6 0 rfl ?_
  refine z_iload_n C dJ1_charAt_3b067_7 1 rfl ?_
  refine z_bld C LX hx dJ1_charAt_3b067_8 ?_
  refine z_sipush C dJ1_charAt_3b067_9 (by decide) ?_
  refine z_iand C dJ1_charAt_3b067_12 ?_
  refine z_i2cR C dJ1_charAt_3b067_13 ?_
  rw [e1]
  exact z_nret C E e3 dJ1_charAt_3b067_14 ⟨rfl, rfl⟩
set_option maxRecDepth 100000 in
theorem kl_lat (l : Launch) (G : z_G) (q v : Nat) : z_ML l G q v yJ0_isLatin1_aae02 cJ0_isLatin1_aae02 1 (some .boolean) (k2_rm 0 0) [.ref q] [] 0 0 (fun vv w => vv = some (z_i 1) ∧ w = []) := by
  refine z_ML.intro (by decide +kernel) (Nat.le_of_ble_eq_true rfl) (L := [(0, .ref q)]) rfl (fun X C E LX => ?_)
  refine z_getC C LX (z_mem 204 (by decide +kernel) rfl) dJ0_isLatin1_aae02_0 ?_
  refine z_if_eq (tgt := 17) C (z_k 1 rfl) dJ0_isLatin1_aae02_3 (by decide) (fun c => absurd c (by decide)) (fun c => ?_)
  refine z_aload_n C dJ0_isLatin1_aae02_6 0 rfl ?_
  refine z_gcoder C LX (z_mem 930 (by decide +kernel) rfl) dJ0_isLatin1_aae02_7 ?_
  refine z_if_ne (tgt := 17) C (z_k 0 rfl) dJ0_isLatin1_aae02_10 (by decide) (fun c => absurd rfl c) (fun c => ?_)
  refine z_iconst C dJ0_isLatin1_aae02_13 ?_
  refine z_goto (tgt := 18) C dJ0_isLatin1_aae02_14 (by decide) ?_
  exact z_zret C E (Or.inr rfl) dJ0_isLatin1_aae02_18 ⟨rfl, rfl⟩
set_option maxRecDepth 100000 in
theorem kl_coder (l : Launch) (G : z_G) (q v : Nat) : z_ML l G q v yJ0_coder_7d493 cJ0_coder_7d493 1 (some .byte) (k2_rm 0 0) [.ref q] [] 0 0 (fun vv w => vv = some (z_i 0) ∧ w = []) := by
  refine z_ML.intro (by decide +kernel) (Nat.le_of_ble_eq_true rfl) (L := [(0, .ref q)]) rfl (fun X C E LX => ?_)
  refine z_getC C LX (z_mem 204 (by decide +kernel) rfl) dJ0_coder_7d493_0 ?_
  refine z_if_eq (tgt := 13) C (z_k 1 rfl) dJ0_coder_7d493_3 (by decide) (fun c => absurd c (by decide)) (fun c => ?_)
  refine z_aload_n C dJ0_coder_7d493_6 0 rfl ?_
  refine z_gcoder C LX (z_mem 930 (by decide +kernel) rfl) dJ0_coder_7d493_7 ?_
  refine z_goto (tgt := 14) C dJ0_coder_7d493_10 (by decide) ?_
  exact z_nret C E (by decide +kernel) dJ0_coder_7d493_14 ⟨rfl, rfl⟩
set_option maxRecDepth 100000 in
theorem kl_len (l : Launch) (G : z_G) (q v : Nat) : z_ML l G q v yJ0_length_8abf5 cJ0_length_8abf5 1 (some .int) (k2_rm 1 20) [.ref q] [] 0 0 (fun vv w => vv = some (z_i 70) ∧ w = []) := by
  refine z_ML.intro (by decide +kernel) (Nat.le_of_ble_eq_true rfl) (L := [(0, .ref q)]) rfl (fun X C E LX => ?_)
  refine z_aload_n C dJ0_length_8abf5_0 0 rfl ?_
  refine z_gvalue C LX (z_mem 929 (by decide +kernel) rfl) dJ0_length_8abf5_1 ?_
  refine z_blen C LX dJ0_length_8abf5_4 ?_
  refine z_aload_n C dJ0_length_8abf5_5 0 rfl ?_
  refine z_callVL C LX (kl_coder l G q v) rfl zv_J0_coder_7d493 (z_mem 200 (by decide +kernel) rfl) dJ0_length_8abf5_6 rfl [z_i 70] rfl (Nat.le_of_ble_eq_true rfl) ⟨Nat.le_of_ble_eq_true rfl, Nat.le_of_ble_eq_true rfl⟩ ⟨rfl, rfl⟩ ⟨Nat.zero_le _, Nat.zero_le _⟩ ?_
  refine z_ishr C (x := 70) (y := 0) dJ0_length_8abf5_9 ?_
  rw [show z_shr 70 0 = 70 by decide +kernel]
  exact z_iret C E dJ0_length_8abf5_10 ⟨rfl, rfl⟩
set_option maxRecDepth 100000 in
theorem kl_ch0 (l : Launch) (G : z_G) (q v : Nat) (x : Int) (hx : 0 ≤ x ∧ x < 70) : z_ML l G q v yJ0_charAt_5068e cJ0_charAt_5068e 2 (some .char) (k2_rm 3 64) [.ref q, z_i x] [] 0 0 (fun vv w => vv = some (z_i (s_txt.getD x.toNat 0)) ∧ w = []) := by
  obtain ⟨e1, e2, e3⟩ := s_txt_c x.toNat (by omega)
  refine z_ML.intro (by decide +kernel) (Nat.le_of_ble_eq_true rfl) (L := [(0, .ref q), (1, z_i x)]) rfl (fun X C E LX => ?_)
  refine z_aload_n C dJ0_charAt_5068e_0 0 rfl ?_
  refine z_callVL C LX (kl_lat l G q v) rfl zv_J0_isLatin1_aae02 (z_mem 210 (by decide +kernel) rfl) dJ0_charAt_5068e_1 rfl [] rfl (Nat.le_of_ble_eq_true rfl) ⟨Nat.le_of_ble_eq_true rfl, Nat.le_of_ble_eq_true rfl⟩ ⟨rfl, rfl⟩ ⟨Nat.zero_le _, Nat.zero_le _⟩ ?_
  refine z_if_eq (tgt := 16) C (z_k 1 rfl) dJ0_charAt_5068e_4 (by decide) (fun c => absurd c (by decide)) (fun c => ?_)
  refine z_aload_n C dJ0_charAt_5068e_7 0 rfl ?_
  refine z_gvalue C LX (z_mem 929 (by decide +kernel) rfl) dJ0_charAt_5068e_8 ?_
  refine z_iload_n C dJ0_charAt_5068e_11 1 rfl ?_
  refine z_callSL C LX (kl_ch1 l G q v x hx) zs_J1_charAt_3b067 (z_mem 214 (by decide +kernel) rfl) dJ0_charAt_5068e_12 rfl [] rfl (Nat.le_of_ble_eq_true rfl) ⟨Nat.le_of_ble_eq_true rfl, Nat.le_of_ble_eq_true rfl⟩ ⟨rfl, rfl⟩ ⟨Nat.zero_le _, Nat.zero_le _⟩ ?_
  exact z_nret C E e3 dJ0_charAt_5068e_15 ⟨rfl, rfl⟩
