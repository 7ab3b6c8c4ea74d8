/-! the constructors, but of the class itself -/
theorem z_flat {X : z_X} {ce sl : Nat} {ws ws' : va_W} {L : List (Nat × Value)} {pc : Nat} {st : List Value} (h : ws = ws') (kk : z_J X ce sl ws' L pc st) : z_J X ce sl ws L pc st := by rw [h]; exact kk
set_option maxRecDepth 100000 in
theorem ki_X0 (l : Launch) (G : z_G) (t_o : Nat) : z_M l G yX0_init cX0_init 1 none ({ frames := 1, cells := 3, slots := 216, locals := 12 } : Room) [.ref t_o] [(t_o, z_o 0 [z_i 0, z_i 0, z_i 0, .null, .null, .null])] 3 216 (fun v w => v = none ∧ ∃ a1 a2 a3 : Nat, w = [(t_o, z_o 0 [z_i 0, z_i 0, z_i 0, .ref a1, .ref a2, .ref a3]), (a1, z_a G.2.1 36 (fun _ => 0)), (a2, z_a G.2.1 144 (fun _ => 0)), (a3, z_l G.2.2.1 36 (fun _ => 0))]) := by
  refine z_M.intro (by decide +kernel) (Nat.le_of_ble_eq_true rfl) (L := [(0, .ref t_o)]) rfl (fun X C E => ?_)
  refine z_aload_n C dX0_init_0 0 rfl ?_
  refine z_objI C (z_mem 93 (by decide +kernel) rfl) (z_mem 68 (by decide +kernel) rfl) (z_mem 69 (by decide +kernel) rfl) dX0_init_1 (by decide) (by decide) ?_
  refine z_aload_n C dX0_init_4 0 rfl ?_
  refine z_iconst C dX0_init_5 ?_
  refine z_puti C zf_X0_9 dX0_init_6 0 rfl rfl (ws' := [(t_o, z_o 0 [z_i 0, z_i 0, z_i 0, .null, .null, .null])]) rfl ?_
  refine z_aload_n C dX0_init_9 0 rfl ?_
  refine z_iconst C dX0_init_10 ?_
  refine z_puti C zf_X0_15 dX0_init_11 0 rfl rfl (ws' := [(t_o, z_o 0 [z_i 0, z_i 0, z_i 0, .null, .null, .null])]) rfl ?_
  refine z_aload_n C dX0_init_14 0 rfl ?_
  refine z_iconst C dX0_init_15 ?_
  refine z_puti C zf_X0_18 dX0_init_16 0 rfl rfl (ws' := [(t_o, z_o 0 [z_i 0, z_i 0, z_i 0, .null, .null, .null])]) rfl ?_
  refine z_aload_n C dX0_init_19 0 rfl ?_
  refine z_bipush C dX0_init_20 (by decide) ?_
  refine z_newa_i C (z_mem 122 (by decide +kernel) rfl) (N' := 36) ⟨by decide, z_k 36 rfl⟩ rfl (by decide) (by decide) (by decide) dX0_init_22 (fun a1 => ?_)
  refine z_flat (ws' := [(t_o, z_o 0 [z_i 0, z_i 0, z_i 0, .null, .null, .null]), (a1, z_a G.2.1 36 (fun _ => 0))]) rfl ?_
  refine z_putF C E rfl zf_X0_21 rfl dX0_init_24 0 rfl rfl rfl rfl (ws' := [(t_o, z_o 0 [z_i 0, z_i 0, z_i 0, .ref a1, .null, .null]), (a1, z_a G.2.1 36 (fun _ => 0))]) rfl ?_
  refine z_aload_n C dX0_init_27 0 rfl ?_
  refine z_sipush C dX0_init_28 (by decide) ?_
  refine z_newa_i C (z_mem 122 (by decide +kernel) rfl) (N' := 144) ⟨by decide, z_k 144 rfl⟩ rfl (by decide) (by decide) (by decide) dX0_init_31 (fun a2 => ?_)
  refine z_flat (ws' := [(t_o, z_o 0 [z_i 0, z_i 0, z_i 0, .ref a1, .null, .null]), (a1, z_a G.2.1 36 (fun _ => 0)), (a2, z_a G.2.1 144 (fun _ => 0))]) rfl ?_
  refine z_putF C E rfl zf_X0_25 rfl dX0_init_33 0 rfl rfl rfl rfl (ws' := [(t_o, z_o 0 [z_i 0, z_i 0, z_i 0, .ref a1, .ref a2, .null]), (a1, z_a G.2.1 36 (fun _ => 0)), (a2, z_a G.2.1 144 (fun _ => 0))]) rfl ?_
  refine z_aload_n C dX0_init_36 0 rfl ?_
  refine z_bipush C dX0_init_37 (by decide) ?_
  refine z_newa_l C (z_mem 123 (by decide +kernel) rfl) (N' := 36) ⟨by decide, z_k 36 rfl⟩ rfl (by decide) (by decide) (by decide) dX0_init_39 (fun a3 => ?_)
  refine z_flat (ws' := [(t_o, z_o 0 [z_i 0, z_i 0, z_i 0, .ref a1, .ref a2, .null]), (a1, z_a G.2.1 36 (fun _ => 0)), (a2, z_a G.2.1 144 (fun _ => 0)), (a3, z_l G.2.2.1 36 (fun _ => 0))]) rfl ?_
  refine z_putF C E rfl zf_X0_28 rfl dX0_init_41 0 rfl rfl rfl rfl (ws' := [(t_o, z_o 0 [z_i 0, z_i 0, z_i 0, .ref a1, .ref a2, .ref a3]), (a1, z_a G.2.1 36 (fun _ => 0)), (a2, z_a G.2.1 144 (fun _ => 0)), (a3, z_l G.2.2.1 36 (fun _ => 0))]) rfl ?_
  exact z_vret C E dX0_init_44 ⟨rfl, a1, a2, a3, rfl⟩
set_option maxRecDepth 100000 in
theorem ki_X1 (l : Launch) (G : z_G) (t_o : Nat) : z_M l G yX1_init cX1_init 1 none ({ frames := 1, cells := 3, slots := 584, locals := 12 } : Room) [.ref t_o] [(t_o, z_o 1 [.null, .null, .null, z_i 0])] 3 584 (fun v w => v = none ∧ ∃ a1 a2 a3 : Nat, w = [(t_o, z_o 1 [.ref a1, .ref a2, .ref a3, z_i 0]), (a1, z_a G.2.1 288 (fun _ => 0)), (a2, z_a G.2.1 288 (fun _ => 0)), (a3, z_a G.2.1 8 (fun _ => 0))]) := by
  refine z_M.intro (by decide +kernel) (Nat.le_of_ble_eq_true rfl) (L := [(0, .ref t_o)]) rfl (fun X C E => ?_)
  refine z_aload_n C dX1_init_0 0 rfl ?_
  refine z_objI C (z_mem 180 (by decide +kernel) rfl) (z_mem 68 (by decide +kernel) rfl) (z_mem 69 (by decide +kernel) rfl) dX1_init_1 (by decide) (by decide) ?_
  refine z_aload_n C dX1_init_4 0 rfl ?_
  refine z_sipush C dX1_init_5 (by decide) ?_
  refine z_newa_i C (z_mem 122 (by decide +kernel) rfl) (N' := 288) ⟨by decide, z_k 288 rfl⟩ rfl (by decide) (by decide) (by decide) dX1_init_8 (fun a1 => ?_)
  refine z_flat (ws' := [(t_o, z_o 1 [.null, .null, .null, z_i 0]), (a1, z_a G.2.1 288 (fun _ => 0))]) rfl ?_
  refine z_putF C E rfl zf_X1_9 rfl dX1_init_10 0 rfl rfl rfl rfl (ws' := [(t_o, z_o 1 [.ref a1, .null, .null, z_i 0]), (a1, z_a G.2.1 288 (fun _ => 0))]) rfl ?_
  refine z_aload_n C dX1_init_13 0 rfl ?_
  refine z_sipush C dX1_init_14 (by decide) ?_
  refine z_newa_i C (z_mem 122 (by decide +kernel) rfl) (N' := 288) ⟨by decide, z_k 288 rfl⟩ rfl (by decide) (by decide) (by decide) dX1_init_17 (fun a2 => ?_)
  refine z_flat (ws' := [(t_o, z_o 1 [.ref a1, .null, .null, z_i 0]), (a1, z_a G.2.1 288 (fun _ => 0)), (a2, z_a G.2.1 288 (fun _ => 0))]) rfl ?_
  refine z_putF C E rfl zf_X1_15 rfl dX1_init_19 0 rfl rfl rfl rfl (ws' := [(t_o, z_o 1 [.ref a1, .ref a2, .null, z_i 0]), (a1, z_a G.2.1 288 (fun _ => 0)), (a2, z_a G.2.1 288 (fun _ => 0))]) rfl ?_
  refine z_aload_n C dX1_init_22 0 rfl ?_
  refine z_bipush C dX1_init_23 (by decide) ?_
  refine z_newa_i C (z_mem 122 (by decide +kernel) rfl) (N' := 8) ⟨by decide, z_k 8 rfl⟩ rfl (by decide) (by decide) (by decide) dX1_init_25 (fun a3 => ?_)
  refine z_flat (ws' := [(t_o, z_o 1 [.ref a1, .ref a2, .null, z_i 0]), (a1, z_a G.2.1 288 (fun _ => 0)), (a2, z_a G.2.1 288 (fun _ => 0)), (a3, z_a G.2.1 8 (fun _ => 0))]) rfl ?_
  refine z_putF C E rfl zf_X1_18 rfl dX1_init_27 0 rfl rfl rfl rfl (ws' := [(t_o, z_o 1 [.ref a1, .ref a2, .ref a3, z_i 0]), (a1, z_a G.2.1 288 (fun _ => 0)), (a2, z_a G.2.1 288 (fun _ => 0)), (a3, z_a G.2.1 8 (fun _ => 0))]) rfl ?_
  refine z_aload_n C dX1_init_30 0 rfl ?_
  refine z_iconst C dX1_init_31 ?_
  refine z_puti C zf_X1_21 dX1_init_32 0 rfl rfl (ws' := [(t_o, z_o 1 [.ref a1, .ref a2, .ref a3, z_i 0]), (a1, z_a G.2.1 288 (fun _ => 0)), (a2, z_a G.2.1 288 (fun _ => 0)), (a3, z_a G.2.1 8 (fun _ => 0))]) rfl ?_
  exact z_vret C E dX1_init_35 ⟨rfl, a1, a2, a3, rfl⟩
set_option maxRecDepth 100000 in
theorem ki_X2 (l : Launch) (G : z_G) (t_o : Nat) : z_M l G yX2_init cX2_init 1 none ({ frames := 1, cells := 2, slots := 72, locals := 12 } : Room) [.ref t_o] [(t_o, z_o 2 [.null, .null, z_i 0, z_i 0, z_i 0])] 2 72 (fun v w => v = none ∧ ∃ a1 a2 : Nat, w = [(t_o, z_o 2 [.ref a1, .ref a2, z_i 0, z_i 0, z_i 0]), (a1, z_a G.2.1 36 (fun _ => 0)), (a2, z_a G.2.1 36 (fun _ => 0))]) := by
  refine z_M.intro (by decide +kernel) (Nat.le_of_ble_eq_true rfl) (L := [(0, .ref t_o)]) rfl (fun X C E => ?_)
  refine z_aload_n C dX2_init_0 0 rfl ?_
  refine z_objI C (z_mem 157 (by decide +kernel) rfl) (z_mem 68 (by decide +kernel) rfl) (z_mem 69 (by decide +kernel) rfl) dX2_init_1 (by decide) (by decide) ?_
  refine z_aload_n C dX2_init_4 0 rfl ?_
  refine z_bipush C dX2_init_5 (by decide) ?_
  refine z_newa_i C (z_mem 122 (by decide +kernel) rfl) (N' := 36) ⟨by decide, z_k 36 rfl⟩ rfl (by decide) (by decide) (by decide) dX2_init_7 (fun a1 => ?_)
  refine z_flat (ws' := [(t_o, z_o 2 [.null, .null, z_i 0, z_i 0, z_i 0]), (a1, z_a G.2.1 36 (fun _ => 0))]) rfl ?_
  refine z_putF C E rfl zf_X2_9 rfl dX2_init_9 0 rfl rfl rfl rfl (ws' := [(t_o, z_o 2 [.ref a1, .null, z_i 0, z_i 0, z_i 0]), (a1, z_a G.2.1 36 (fun _ => 0))]) rfl ?_
  refine z_aload_n C dX2_init_12 0 rfl ?_
  refine z_bipush C dX2_init_13 (by decide) ?_
  refine z_newa_i C (z_mem 122 (by decide +kernel) rfl) (N' := 36) ⟨by decide, z_k 36 rfl⟩ rfl (by decide) (by decide) (by decide) dX2_init_15 (fun a2 => ?_)
  refine z_flat (ws' := [(t_o, z_o 2 [.ref a1, .null, z_i 0, z_i 0, z_i 0]), (a1, z_a G.2.1 36 (fun _ => 0)), (a2, z_a G.2.1 36 (fun _ => 0))]) rfl ?_
  refine z_putF C E rfl zf_X2_15 rfl dX2_init_17 0 rfl rfl rfl rfl (ws' := [(t_o, z_o 2 [.ref a1, .ref a2, z_i 0, z_i 0, z_i 0]), (a1, z_a G.2.1 36 (fun _ => 0)), (a2, z_a G.2.1 36 (fun _ => 0))]) rfl ?_
  refine z_aload_n C dX2_init_20 0 rfl ?_
  refine z_iconst C dX2_init_21 ?_
  refine z_puti C zf_X2_18 dX2_init_22 0 rfl rfl (ws' := [(t_o, z_o 2 [.ref a1, .ref a2, z_i 0, z_i 0, z_i 0]), (a1, z_a G.2.1 36 (fun _ => 0)), (a2, z_a G.2.1 36 (fun _ => 0))]) rfl ?_
  refine z_aload_n C dX2_init_25 0 rfl ?_
  refine z_iconst C dX2_init_26 ?_
  refine z_puti C zf_X2_22 dX2_init_27 0 rfl rfl (ws' := [(t_o, z_o 2 [.ref a1, .ref a2, z_i 0, z_i 0, z_i 0]), (a1, z_a G.2.1 36 (fun _ => 0)), (a2, z_a G.2.1 36 (fun _ => 0))]) rfl ?_
  refine z_aload_n C dX2_init_30 0 rfl ?_
  refine z_iconst C dX2_init_31 ?_
  refine z_puti C zf_X2_25 dX2_init_32 0 rfl rfl (ws' := [(t_o, z_o 2 [.ref a1, .ref a2, z_i 0, z_i 0, z_i 0]), (a1, z_a G.2.1 36 (fun _ => 0)), (a2, z_a G.2.1 36 (fun _ => 0))]) rfl ?_
  exact z_vret C E dX2_init_35 ⟨rfl, a1, a2, rfl⟩
set_option maxRecDepth 100000 in
theorem ki_X3 (l : Launch) (G : z_G) (t_o : Nat) : z_M l G yX3_init cX3_init 1 none ({ frames := 1, cells := 1, slots := 200, locals := 12 } : Room) [.ref t_o] [(t_o, z_o 3 [.null, z_i 0, z_i 0])] 1 200 (fun v w => v = none ∧ ∃ a1 : Nat, w = [(t_o, z_o 3 [.ref a1, z_i 0, z_i 0]), (a1, z_a G.2.2.2.1 200 (fun _ => 0))]) := by
  refine z_M.intro (by decide +kernel) (Nat.le_of_ble_eq_true rfl) (L := [(0, .ref t_o)]) rfl (fun X C E => ?_)
  refine z_aload_n C dX3_init_0 0 rfl ?_
  refine z_objI C (z_mem 75 (by decide +kernel) rfl) (z_mem 68 (by decide +kernel) rfl) (z_mem 69 (by decide +kernel) rfl) dX3_init_1 (by decide) (by decide) ?_
  refine z_aload_n C dX3_init_4 0 rfl ?_
  refine z_sipush C dX3_init_5 (by decide) ?_
  refine z_newa_c C (z_mem 87 (by decide +kernel) rfl) (N' := 200) ⟨by decide, z_k 200 rfl⟩ rfl (by decide) (by decide) (by decide) dX3_init_8 (fun a1 => ?_)
  refine z_flat (ws' := [(t_o, z_o 3 [.null, z_i 0, z_i 0]), (a1, z_a G.2.2.2.1 200 (fun _ => 0))]) rfl ?_
  refine z_putF C E rfl zf_X3_9 rfl dX3_init_10 0 rfl rfl rfl rfl (ws' := [(t_o, z_o 3 [.ref a1, z_i 0, z_i 0]), (a1, z_a G.2.2.2.1 200 (fun _ => 0))]) rfl ?_
  refine z_aload_n C dX3_init_13 0 rfl ?_
  refine z_iconst C dX3_init_14 ?_
  refine z_puti C zf_X3_15 dX3_init_15 0 rfl rfl (ws' := [(t_o, z_o 3 [.ref a1, z_i 0, z_i 0]), (a1, z_a G.2.2.2.1 200 (fun _ => 0))]) rfl ?_
  refine z_aload_n C dX3_init_18 0 rfl ?_
  refine z_iconst C dX3_init_19 ?_
  refine z_puti C zf_X3_19 dX3_init_20 0 rfl rfl (ws' := [(t_o, z_o 3 [.ref a1, z_i 0, z_i 0]), (a1, z_a G.2.2.2.1 200 (fun _ => 0))]) rfl ?_
  exact z_vret C E dX3_init_23 ⟨rfl, a1, rfl⟩
set_option maxRecDepth 100000 in
theorem ki_X4 (l : Launch) (G : z_G) (t_o : Nat) : z_M l G yX4_init cX4_init 1 none ({ frames := 1, cells := 2, slots := 72, locals := 12 } : Room) [.ref t_o] [(t_o, z_o 4 [.null, .null, z_i 0, .long 0])] 2 72 (fun v w => v = none ∧ ∃ a1 a2 : Nat, w = [(t_o, z_o 4 [.ref a1, .ref a2, z_i 0, .long 0]), (a1, z_a G.2.1 36 (fun _ => 0)), (a2, z_a G.2.1 36 (fun _ => 0))]) := by
  refine z_M.intro (by decide +kernel) (Nat.le_of_ble_eq_true rfl) (L := [(0, .ref t_o)]) rfl (fun X C E => ?_)
  refine z_aload_n C dX4_init_0 0 rfl ?_
  refine z_objI C (z_mem 129 (by decide +kernel) rfl) (z_mem 68 (by decide +kernel) rfl) (z_mem 69 (by decide +kernel) rfl) dX4_init_1 (by decide) (by decide) ?_
  refine z_aload_n C dX4_init_4 0 rfl ?_
  refine z_bipush C dX4_init_5 (by decide) ?_
  refine z_newa_i C (z_mem 122 (by decide +kernel) rfl) (N' := 36) ⟨by decide, z_k 36 rfl⟩ rfl (by decide) (by decide) (by decide) dX4_init_7 (fun a1 => ?_)
  refine z_flat (ws' := [(t_o, z_o 4 [.null, .null, z_i 0, .long 0]), (a1, z_a G.2.1 36 (fun _ => 0))]) rfl ?_
  refine z_putF C E rfl zf_X4_9 rfl dX4_init_9 0 rfl rfl rfl rfl (ws' := [(t_o, z_o 4 [.ref a1, .null, z_i 0, .long 0]), (a1, z_a G.2.1 36 (fun _ => 0))]) rfl ?_
  refine z_aload_n C dX4_init_12 0 rfl ?_
  refine z_bipush C dX4_init_13 (by decide) ?_
  refine z_newa_i C (z_mem 122 (by decide +kernel) rfl) (N' := 36) ⟨by decide, z_k 36 rfl⟩ rfl (by decide) (by decide) (by decide) dX4_init_15 (fun a2 => ?_)
  refine z_flat (ws' := [(t_o, z_o 4 [.ref a1, .null, z_i 0, .long 0]), (a1, z_a G.2.1 36 (fun _ => 0)), (a2, z_a G.2.1 36 (fun _ => 0))]) rfl ?_
  refine z_putF C E rfl zf_X4_15 rfl dX4_init_17 0 rfl rfl rfl rfl (ws' := [(t_o, z_o 4 [.ref a1, .ref a2, z_i 0, .long 0]), (a1, z_a G.2.1 36 (fun _ => 0)), (a2, z_a G.2.1 36 (fun _ => 0))]) rfl ?_
  refine z_aload_n C dX4_init_20 0 rfl ?_
  refine z_iconst C dX4_init_21 ?_
  refine z_puti C zf_X4_18 dX4_init_22 0 rfl rfl (ws' := [(t_o, z_o 4 [.ref a1, .ref a2, z_i 0, .long 0]), (a1, z_a G.2.1 36 (fun _ => 0)), (a2, z_a G.2.1 36 (fun _ => 0))]) rfl ?_
  refine z_aload_n C dX4_init_25 0 rfl ?_
  refine z_lconst C (v := 0) dX4_init_26 rfl ?_
  refine z_putl C zf_X4_22 dX4_init_27 0 rfl rfl (ws' := [(t_o, z_o 4 [.ref a1, .ref a2, z_i 0, .long 0]), (a1, z_a G.2.1 36 (fun _ => 0)), (a2, z_a G.2.1 36 (fun _ => 0))]) rfl ?_
  exact z_vret C E dX4_init_30 ⟨rfl, a1, a2, rfl⟩
