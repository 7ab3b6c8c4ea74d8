theorem z_inX0 : ∀ w ∈ u_ws RX0 TX0 6, w ∈ z_W := by
  intro w hw
  obtain ⟨k, hk, rfl⟩ := List.mem_map.mp hw
  have h := List.mem_range.mp hk
  rcases (show k = 0 ∨ k = 1 ∨ k = 2 ∨ k = 3 ∨ k = 4 ∨ k = 5 by omega) with rfl | rfl | rfl | rfl | rfl | rfl
  · exact z_mem 109 (by decide +kernel) rfl
  · exact z_mem 111 (by decide +kernel) rfl
  · exact z_mem 113 (by decide +kernel) rfl
  · exact z_mem 115 (by decide +kernel) rfl
  · exact z_mem 117 (by decide +kernel) rfl
  · exact z_mem 119 (by decide +kernel) rfl
theorem z_inX1 : ∀ w ∈ u_ws RX1 TX1 4, w ∈ z_W := by
  intro w hw
  obtain ⟨k, hk, rfl⟩ := List.mem_map.mp hw
  have h := List.mem_range.mp hk
  rcases (show k = 0 ∨ k = 1 ∨ k = 2 ∨ k = 3 by omega) with rfl | rfl | rfl | rfl
  · exact z_mem 186 (by decide +kernel) rfl
  · exact z_mem 188 (by decide +kernel) rfl
  · exact z_mem 190 (by decide +kernel) rfl
  · exact z_mem 192 (by decide +kernel) rfl
theorem z_inX2 : ∀ w ∈ u_ws RX2 TX2 5, w ∈ z_W := by
  intro w hw
  obtain ⟨k, hk, rfl⟩ := List.mem_map.mp hw
  have h := List.mem_range.mp hk
  rcases (show k = 0 ∨ k = 1 ∨ k = 2 ∨ k = 3 ∨ k = 4 by omega) with rfl | rfl | rfl | rfl | rfl
  · exact z_mem 164 (by decide +kernel) rfl
  · exact z_mem 166 (by decide +kernel) rfl
  · exact z_mem 168 (by decide +kernel) rfl
  · exact z_mem 170 (by decide +kernel) rfl
  · exact z_mem 172 (by decide +kernel) rfl
theorem z_inX3 : ∀ w ∈ u_ws RX3 TX3 3, w ∈ z_W := by
  intro w hw
  obtain ⟨k, hk, rfl⟩ := List.mem_map.mp hw
  have h := List.mem_range.mp hk
  rcases (show k = 0 ∨ k = 1 ∨ k = 2 by omega) with rfl | rfl | rfl
  · exact z_mem 80 (by decide +kernel) rfl
  · exact z_mem 82 (by decide +kernel) rfl
  · exact z_mem 84 (by decide +kernel) rfl
theorem z_inX4 : ∀ w ∈ u_ws RX4 TX4 4, w ∈ z_W := by
  intro w hw
  obtain ⟨k, hk, rfl⟩ := List.mem_map.mp hw
  have h := List.mem_range.mp hk
  rcases (show k = 0 ∨ k = 1 ∨ k = 2 ∨ k = 3 by omega) with rfl | rfl | rfl | rfl
  · exact z_mem 143 (by decide +kernel) rfl
  · exact z_mem 145 (by decide +kernel) rfl
  · exact z_mem 147 (by decide +kernel) rfl
  · exact z_mem 149 (by decide +kernel) rfl
theorem z_inX5 : ∀ w ∈ u_ws RX5 TX5 11, w ∈ z_W := by
  intro w hw
  obtain ⟨k, hk, rfl⟩ := List.mem_map.mp hw
  have h := List.mem_range.mp hk
  rcases (show k = 0 ∨ k = 1 ∨ k = 2 ∨ k = 3 ∨ k = 4 ∨ k = 5 ∨ k = 6 ∨ k = 7 ∨ k = 8 ∨ k = 9 ∨ k = 10 by omega) with rfl | rfl | rfl | rfl | rfl | rfl | rfl | rfl | rfl | rfl | rfl
  · exact z_mem 382 (by decide +kernel) rfl
  · exact z_mem 384 (by decide +kernel) rfl
  · exact z_mem 386 (by decide +kernel) rfl
  · exact z_mem 388 (by decide +kernel) rfl
  · exact z_mem 390 (by decide +kernel) rfl
  · exact z_mem 392 (by decide +kernel) rfl
  · exact z_mem 394 (by decide +kernel) rfl
  · exact z_mem 396 (by decide +kernel) rfl
  · exact z_mem 398 (by decide +kernel) rfl
  · exact z_mem 400 (by decide +kernel) rfl
  · exact z_mem 402 (by decide +kernel) rfl
theorem z_inX6 : ∀ w ∈ u_ws RX6 TX6 17, w ∈ z_W := by
  intro w hw
  obtain ⟨k, hk, rfl⟩ := List.mem_map.mp hw
  have h := List.mem_range.mp hk
  rcases (show k = 0 ∨ k = 1 ∨ k = 2 ∨ k = 3 ∨ k = 4 ∨ k = 5 ∨ k = 6 ∨ k = 7 ∨ k = 8 ∨ k = 9 ∨ k = 10 ∨ k = 11 ∨ k = 12 ∨ k = 13 ∨ k = 14 ∨ k = 15 ∨ k = 16 by omega) with rfl | rfl | rfl | rfl | rfl | rfl | rfl | rfl | rfl | rfl | rfl | rfl | rfl | rfl | rfl | rfl | rfl
  · exact z_mem 712 (by decide +kernel) rfl
  · exact z_mem 714 (by decide +kernel) rfl
  · exact z_mem 716 (by decide +kernel) rfl
  · exact z_mem 718 (by decide +kernel) rfl
  · exact z_mem 720 (by decide +kernel) rfl
  · exact z_mem 722 (by decide +kernel) rfl
  · exact z_mem 724 (by decide +kernel) rfl
  · exact z_mem 726 (by decide +kernel) rfl
  · exact z_mem 728 (by decide +kernel) rfl
  · exact z_mem 730 (by decide +kernel) rfl
  · exact z_mem 732 (by decide +kernel) rfl
  · exact z_mem 734 (by decide +kernel) rfl
  · exact z_mem 736 (by decide +kernel) rfl
  · exact z_mem 738 (by decide +kernel) rfl
  · exact z_mem 740 (by decide +kernel) rfl
  · exact z_mem 742 (by decide +kernel) rfl
  · exact z_mem 744 (by decide +kernel) rfl
theorem zf_X3_9 : z_F RX3 9 3 0 (.array .char) true := ⟨RX3, TX3, 3, tyX3, rfl, z_inX3, tyX3_ok, nmX3, by decide, z_mem 76 (by decide +kernel) rfl, rfl, rfl, rfl⟩
theorem zf_X3_15 : z_F RX3 15 3 1 .int false := ⟨RX3, TX3, 3, tyX3, rfl, z_inX3, tyX3_ok, nmX3, by decide, z_mem 77 (by decide +kernel) rfl, rfl, rfl, rfl⟩
theorem zf_X5_87 : z_F RX5 87 3 1 .int false := ⟨RX3, TX3, 3, tyX3, rfl, z_inX3, tyX3_ok, nmX3, by decide, z_mem 78 (by decide +kernel) rfl, rfl, rfl, rfl⟩
theorem zf_X3_19 : z_F RX3 19 3 2 .int false := ⟨RX3, TX3, 3, tyX3, rfl, z_inX3, tyX3_ok, nmX3, by decide, z_mem 79 (by decide +kernel) rfl, rfl, rfl, rfl⟩
theorem zf_X0_9 : z_F RX0 9 0 0 .int false := ⟨RX0, TX0, 6, tyX0, rfl, z_inX0, tyX0_ok, nmX0, by decide, z_mem 94 (by decide +kernel) rfl, rfl, rfl, rfl⟩
theorem zf_X5_226 : z_F RX5 226 0 0 .int false := ⟨RX0, TX0, 6, tyX0, rfl, z_inX0, tyX0_ok, nmX0, by decide, z_mem 95 (by decide +kernel) rfl, rfl, rfl, rfl⟩
theorem zf_X0_15 : z_F RX0 15 0 1 .int false := ⟨RX0, TX0, 6, tyX0, rfl, z_inX0, tyX0_ok, nmX0, by decide, z_mem 96 (by decide +kernel) rfl, rfl, rfl, rfl⟩
theorem zf_X0_18 : z_F RX0 18 0 2 .int false := ⟨RX0, TX0, 6, tyX0, rfl, z_inX0, tyX0_ok, nmX0, by decide, z_mem 97 (by decide +kernel) rfl, rfl, rfl, rfl⟩
theorem zf_X2_34 : z_F RX2 34 0 2 .int false := ⟨RX0, TX0, 6, tyX0, rfl, z_inX0, tyX0_ok, nmX0, by decide, z_mem 98 (by decide +kernel) rfl, rfl, rfl, rfl⟩
theorem zf_X4_38 : z_F RX4 38 0 2 .int false := ⟨RX0, TX0, 6, tyX0, rfl, z_inX0, tyX0_ok, nmX0, by decide, z_mem 99 (by decide +kernel) rfl, rfl, rfl, rfl⟩
theorem zf_X5_93 : z_F RX5 93 0 2 .int false := ⟨RX0, TX0, 6, tyX0, rfl, z_inX0, tyX0_ok, nmX0, by decide, z_mem 100 (by decide +kernel) rfl, rfl, rfl, rfl⟩
theorem zf_X3_75 : z_F RX3 75 0 2 .int false := ⟨RX0, TX0, 6, tyX0, rfl, z_inX0, tyX0_ok, nmX0, by decide, z_mem 101 (by decide +kernel) rfl, rfl, rfl, rfl⟩
theorem zf_X0_21 : z_F RX0 21 0 3 (.array .int) true := ⟨RX0, TX0, 6, tyX0, rfl, z_inX0, tyX0_ok, nmX0, by decide, z_mem 102 (by decide +kernel) rfl, rfl, rfl, rfl⟩
theorem zf_X3_66 : z_F RX3 66 0 3 (.array .int) true := ⟨RX0, TX0, 6, tyX0, rfl, z_inX0, tyX0_ok, nmX0, by decide, z_mem 103 (by decide +kernel) rfl, rfl, rfl, rfl⟩
theorem zf_X5_107 : z_F RX5 107 0 3 (.array .int) true := ⟨RX0, TX0, 6, tyX0, rfl, z_inX0, tyX0_ok, nmX0, by decide, z_mem 104 (by decide +kernel) rfl, rfl, rfl, rfl⟩
theorem zf_X4_95 : z_F RX4 95 0 3 (.array .int) true := ⟨RX0, TX0, 6, tyX0, rfl, z_inX0, tyX0_ok, nmX0, by decide, z_mem 105 (by decide +kernel) rfl, rfl, rfl, rfl⟩
theorem zf_X0_25 : z_F RX0 25 0 4 (.array .int) true := ⟨RX0, TX0, 6, tyX0, rfl, z_inX0, tyX0_ok, nmX0, by decide, z_mem 106 (by decide +kernel) rfl, rfl, rfl, rfl⟩
theorem zf_X4_92 : z_F RX4 92 0 4 (.array .int) true := ⟨RX0, TX0, 6, tyX0, rfl, z_inX0, tyX0_ok, nmX0, by decide, z_mem 107 (by decide +kernel) rfl, rfl, rfl, rfl⟩
theorem zf_X0_28 : z_F RX0 28 0 5 (.array .long) true := ⟨RX0, TX0, 6, tyX0, rfl, z_inX0, tyX0_ok, nmX0, by decide, z_mem 108 (by decide +kernel) rfl, rfl, rfl, rfl⟩
theorem zf_X4_9 : z_F RX4 9 4 0 (.array .int) true := ⟨RX4, TX4, 4, tyX4, rfl, z_inX4, tyX4_ok, nmX4, by decide, z_mem 130 (by decide +kernel) rfl, rfl, rfl, rfl⟩
theorem zf_X1_28 : z_F RX1 28 4 0 (.array .int) true := ⟨RX4, TX4, 4, tyX4, rfl, z_inX4, tyX4_ok, nmX4, by decide, z_mem 131 (by decide +kernel) rfl, rfl, rfl, rfl⟩
theorem zf_X3_62 : z_F RX3 62 4 0 (.array .int) true := ⟨RX4, TX4, 4, tyX4, rfl, z_inX4, tyX4_ok, nmX4, by decide, z_mem 132 (by decide +kernel) rfl, rfl, rfl, rfl⟩
theorem zf_X5_104 : z_F RX5 104 4 0 (.array .int) true := ⟨RX4, TX4, 4, tyX4, rfl, z_inX4, tyX4_ok, nmX4, by decide, z_mem 133 (by decide +kernel) rfl, rfl, rfl, rfl⟩
theorem zf_X4_15 : z_F RX4 15 4 1 (.array .int) true := ⟨RX4, TX4, 4, tyX4, rfl, z_inX4, tyX4_ok, nmX4, by decide, z_mem 134 (by decide +kernel) rfl, rfl, rfl, rfl⟩
theorem zf_X2_37 : z_F RX2 37 4 1 (.array .int) true := ⟨RX4, TX4, 4, tyX4, rfl, z_inX4, tyX4_ok, nmX4, by decide, z_mem 135 (by decide +kernel) rfl, rfl, rfl, rfl⟩
theorem zf_X1_39 : z_F RX1 39 4 1 (.array .int) true := ⟨RX4, TX4, 4, tyX4, rfl, z_inX4, tyX4_ok, nmX4, by decide, z_mem 136 (by decide +kernel) rfl, rfl, rfl, rfl⟩
theorem zf_X3_69 : z_F RX3 69 4 1 (.array .int) true := ⟨RX4, TX4, 4, tyX4, rfl, z_inX4, tyX4_ok, nmX4, by decide, z_mem 137 (by decide +kernel) rfl, rfl, rfl, rfl⟩
theorem zf_X5_110 : z_F RX5 110 4 1 (.array .int) true := ⟨RX4, TX4, 4, tyX4, rfl, z_inX4, tyX4_ok, nmX4, by decide, z_mem 138 (by decide +kernel) rfl, rfl, rfl, rfl⟩
theorem zf_X4_18 : z_F RX4 18 4 2 .int false := ⟨RX4, TX4, 4, tyX4, rfl, z_inX4, tyX4_ok, nmX4, by decide, z_mem 139 (by decide +kernel) rfl, rfl, rfl, rfl⟩
theorem zf_X1_40 : z_F RX1 40 4 2 .int false := ⟨RX4, TX4, 4, tyX4, rfl, z_inX4, tyX4_ok, nmX4, by decide, z_mem 140 (by decide +kernel) rfl, rfl, rfl, rfl⟩
theorem zf_X5_143 : z_F RX5 143 4 2 .int false := ⟨RX4, TX4, 4, tyX4, rfl, z_inX4, tyX4_ok, nmX4, by decide, z_mem 141 (by decide +kernel) rfl, rfl, rfl, rfl⟩
theorem zf_X4_22 : z_F RX4 22 4 3 .long false := ⟨RX4, TX4, 4, tyX4, rfl, z_inX4, tyX4_ok, nmX4, by decide, z_mem 142 (by decide +kernel) rfl, rfl, rfl, rfl⟩
theorem zf_X2_9 : z_F RX2 9 2 0 (.array .int) true := ⟨RX2, TX2, 5, tyX2, rfl, z_inX2, tyX2_ok, nmX2, by decide, z_mem 158 (by decide +kernel) rfl, rfl, rfl, rfl⟩
theorem zf_X2_15 : z_F RX2 15 2 1 (.array .int) true := ⟨RX2, TX2, 5, tyX2, rfl, z_inX2, tyX2_ok, nmX2, by decide, z_mem 159 (by decide +kernel) rfl, rfl, rfl, rfl⟩
theorem zf_X2_18 : z_F RX2 18 2 2 .int false := ⟨RX2, TX2, 5, tyX2, rfl, z_inX2, tyX2_ok, nmX2, by decide, z_mem 160 (by decide +kernel) rfl, rfl, rfl, rfl⟩
theorem zf_X2_22 : z_F RX2 22 2 3 .int false := ⟨RX2, TX2, 5, tyX2, rfl, z_inX2, tyX2_ok, nmX2, by decide, z_mem 161 (by decide +kernel) rfl, rfl, rfl, rfl⟩
theorem zf_X2_25 : z_F RX2 25 2 4 .int false := ⟨RX2, TX2, 5, tyX2, rfl, z_inX2, tyX2_ok, nmX2, by decide, z_mem 162 (by decide +kernel) rfl, rfl, rfl, rfl⟩
theorem zf_X5_225 : z_F RX5 225 2 4 .int false := ⟨RX2, TX2, 5, tyX2, rfl, z_inX2, tyX2_ok, nmX2, by decide, z_mem 163 (by decide +kernel) rfl, rfl, rfl, rfl⟩
theorem zf_X1_9 : z_F RX1 9 1 0 (.array .int) true := ⟨RX1, TX1, 4, tyX1, rfl, z_inX1, tyX1_ok, nmX1, by decide, z_mem 181 (by decide +kernel) rfl, rfl, rfl, rfl⟩
theorem zf_X1_15 : z_F RX1 15 1 1 (.array .int) true := ⟨RX1, TX1, 4, tyX1, rfl, z_inX1, tyX1_ok, nmX1, by decide, z_mem 182 (by decide +kernel) rfl, rfl, rfl, rfl⟩
theorem zf_X1_18 : z_F RX1 18 1 2 (.array .int) true := ⟨RX1, TX1, 4, tyX1, rfl, z_inX1, tyX1_ok, nmX1, by decide, z_mem 183 (by decide +kernel) rfl, rfl, rfl, rfl⟩
theorem zf_X1_21 : z_F RX1 21 1 3 .int false := ⟨RX1, TX1, 4, tyX1, rfl, z_inX1, tyX1_ok, nmX1, by decide, z_mem 184 (by decide +kernel) rfl, rfl, rfl, rfl⟩
theorem zf_X5_156 : z_F RX5 156 1 3 .int false := ⟨RX1, TX1, 4, tyX1, rfl, z_inX1, tyX1_ok, nmX1, by decide, z_mem 185 (by decide +kernel) rfl, rfl, rfl, rfl⟩
theorem zf_X5_12 : z_F RX5 12 5 0 (.object "PuddleStates$Text") true := ⟨RX5, TX5, 11, tyX5, rfl, z_inX5, tyX5_ok, nmX5, by decide, z_mem 371 (by decide +kernel) rfl, rfl, rfl, rfl⟩
theorem zf_X5_19 : z_F RX5 19 5 1 (.object "PuddleStates$Ground") true := ⟨RX5, TX5, 11, tyX5, rfl, z_inX5, tyX5_ok, nmX5, by decide, z_mem 372 (by decide +kernel) rfl, rfl, rfl, rfl⟩
theorem zf_X5_26 : z_F RX5 26 5 2 (.object "PuddleStates$Water") true := ⟨RX5, TX5, 11, tyX5, rfl, z_inX5, tyX5_ok, nmX5, by decide, z_mem 373 (by decide +kernel) rfl, rfl, rfl, rfl⟩
theorem zf_X5_30 : z_F RX5 30 5 3 (.object "PuddleStates$Ground") true := ⟨RX5, TX5, 11, tyX5, rfl, z_inX5, tyX5_ok, nmX5, by decide, z_mem 374 (by decide +kernel) rfl, rfl, rfl, rfl⟩
theorem zf_X5_33 : z_F RX5 33 5 4 (.object "PuddleStates$Water") true := ⟨RX5, TX5, 11, tyX5, rfl, z_inX5, tyX5_ok, nmX5, by decide, z_mem 375 (by decide +kernel) rfl, rfl, rfl, rfl⟩
theorem zf_X5_39 : z_F RX5 39 5 5 (.object "PuddleStates$States") true := ⟨RX5, TX5, 11, tyX5, rfl, z_inX5, tyX5_ok, nmX5, by decide, z_mem 376 (by decide +kernel) rfl, rfl, rfl, rfl⟩
theorem zf_X5_46 : z_F RX5 46 5 6 (.object "PuddleStates$Past") true := ⟨RX5, TX5, 11, tyX5, rfl, z_inX5, tyX5_ok, nmX5, by decide, z_mem 377 (by decide +kernel) rfl, rfl, rfl, rfl⟩
theorem zf_X5_50 : z_F RX5 50 5 7 (.object "PuddleStates$Past") true := ⟨RX5, TX5, 11, tyX5, rfl, z_inX5, tyX5_ok, nmX5, by decide, z_mem 378 (by decide +kernel) rfl, rfl, rfl, rfl⟩
theorem zf_X5_53 : z_F RX5 53 5 8 (.array .int) true := ⟨RX5, TX5, 11, tyX5, rfl, z_inX5, tyX5_ok, nmX5, by decide, z_mem 379 (by decide +kernel) rfl, rfl, rfl, rfl⟩
theorem zf_X5_57 : z_F RX5 57 5 9 (.array .int) true := ⟨RX5, TX5, 11, tyX5, rfl, z_inX5, tyX5_ok, nmX5, by decide, z_mem 380 (by decide +kernel) rfl, rfl, rfl, rfl⟩
theorem zf_X5_60 : z_F RX5 60 5 10 .int false := ⟨RX5, TX5, 11, tyX5, rfl, z_inX5, tyX5_ok, nmX5, by decide, z_mem 381 (by decide +kernel) rfl, rfl, rfl, rfl⟩
theorem zf_X6_7 : z_F RX6 7 6 0 (.array .int) true := ⟨RX6, TX6, 17, tyX6, rfl, z_inX6, tyX6_ok, nmX6, by decide, z_mem 695 (by decide +kernel) rfl, rfl, rfl, rfl⟩
theorem zf_X6_61 : z_F RX6 61 6 1 .int false := ⟨RX6, TX6, 17, tyX6, rfl, z_inX6, tyX6_ok, nmX6, by decide, z_mem 696 (by decide +kernel) rfl, rfl, rfl, rfl⟩
theorem zf_X6_13 : z_F RX6 13 6 2 (.array .int) true := ⟨RX6, TX6, 17, tyX6, rfl, z_inX6, tyX6_ok, nmX6, by decide, z_mem 697 (by decide +kernel) rfl, rfl, rfl, rfl⟩
theorem zf_X6_16 : z_F RX6 16 6 3 (.array .int) true := ⟨RX6, TX6, 17, tyX6, rfl, z_inX6, tyX6_ok, nmX6, by decide, z_mem 698 (by decide +kernel) rfl, rfl, rfl, rfl⟩
theorem zf_X6_19 : z_F RX6 19 6 4 (.array .int) true := ⟨RX6, TX6, 17, tyX6, rfl, z_inX6, tyX6_ok, nmX6, by decide, z_mem 699 (by decide +kernel) rfl, rfl, rfl, rfl⟩
theorem zf_X6_22 : z_F RX6 22 6 5 (.array .int) true := ⟨RX6, TX6, 17, tyX6, rfl, z_inX6, tyX6_ok, nmX6, by decide, z_mem 700 (by decide +kernel) rfl, rfl, rfl, rfl⟩
theorem zf_X6_25 : z_F RX6 25 6 6 (.array .int) true := ⟨RX6, TX6, 17, tyX6, rfl, z_inX6, tyX6_ok, nmX6, by decide, z_mem 701 (by decide +kernel) rfl, rfl, rfl, rfl⟩
theorem zf_X6_89 : z_F RX6 89 6 7 .int false := ⟨RX6, TX6, 17, tyX6, rfl, z_inX6, tyX6_ok, nmX6, by decide, z_mem 702 (by decide +kernel) rfl, rfl, rfl, rfl⟩
theorem zf_X6_28 : z_F RX6 28 6 8 (.array .int) true := ⟨RX6, TX6, 17, tyX6, rfl, z_inX6, tyX6_ok, nmX6, by decide, z_mem 703 (by decide +kernel) rfl, rfl, rfl, rfl⟩
theorem zf_X6_92 : z_F RX6 92 6 9 .int false := ⟨RX6, TX6, 17, tyX6, rfl, z_inX6, tyX6_ok, nmX6, by decide, z_mem 704 (by decide +kernel) rfl, rfl, rfl, rfl⟩
theorem zf_X6_31 : z_F RX6 31 6 10 (.array .int) true := ⟨RX6, TX6, 17, tyX6, rfl, z_inX6, tyX6_ok, nmX6, by decide, z_mem 705 (by decide +kernel) rfl, rfl, rfl, rfl⟩
theorem zf_X6_95 : z_F RX6 95 6 11 .int false := ⟨RX6, TX6, 17, tyX6, rfl, z_inX6, tyX6_ok, nmX6, by decide, z_mem 706 (by decide +kernel) rfl, rfl, rfl, rfl⟩
theorem zf_X6_65 : z_F RX6 65 6 12 .int false := ⟨RX6, TX6, 17, tyX6, rfl, z_inX6, tyX6_ok, nmX6, by decide, z_mem 707 (by decide +kernel) rfl, rfl, rfl, rfl⟩
theorem zf_X6_34 : z_F RX6 34 6 13 (.array .int) true := ⟨RX6, TX6, 17, tyX6, rfl, z_inX6, tyX6_ok, nmX6, by decide, z_mem 708 (by decide +kernel) rfl, rfl, rfl, rfl⟩
theorem zf_X6_37 : z_F RX6 37 6 14 (.array .int) true := ⟨RX6, TX6, 17, tyX6, rfl, z_inX6, tyX6_ok, nmX6, by decide, z_mem 709 (by decide +kernel) rfl, rfl, rfl, rfl⟩
theorem zf_X6_40 : z_F RX6 40 6 15 (.array .boolean) true := ⟨RX6, TX6, 17, tyX6, rfl, z_inX6, tyX6_ok, nmX6, by decide, z_mem 710 (by decide +kernel) rfl, rfl, rfl, rfl⟩
theorem zf_X6_44 : z_F RX6 44 6 16 (.array .boolean) true := ⟨RX6, TX6, 17, tyX6, rfl, z_inX6, tyX6_ok, nmX6, by decide, z_mem 711 (by decide +kernel) rfl, rfl, rfl, rfl⟩
theorem zl_L_9 : Cond.methodLink RL 9 yX5_init ∈ z_W := z_mem 64 (by decide +kernel) rfl
theorem zl_X5_66 : Cond.methodLink RX5 66 yJ0_length_8abf5 ∈ z_W := z_mem 196 (by decide +kernel) rfl
theorem zl_X5_72 : Cond.methodLink RX5 72 yJ0_charAt_5068e ∈ z_W := z_mem 206 (by decide +kernel) rfl
theorem zl_X5_76 : Cond.methodLink RX5 76 yX3_add ∈ z_W := z_mem 244 (by decide +kernel) rfl
theorem zl_X5_80 : Cond.methodLink RX5 80 yX5_layText ∈ z_W := z_mem 248 (by decide +kernel) rfl
theorem zl_X5_89 : Cond.methodLink RX5 89 yX3_readInto ∈ z_W := z_mem 252 (by decide +kernel) rfl
theorem zl_X3_22 : Cond.methodLink RX3 22 yX0_makeOpen ∈ z_W := z_mem 256 (by decide +kernel) rfl
theorem zl_X0_36 : Cond.methodLink RX0 36 yX0_shape ∈ z_W := z_mem 260 (by decide +kernel) rfl
theorem zl_X0_40 : Cond.methodLink RX0 40 yJ7_fill_53178 ∈ z_W := z_mem 267 (by decide +kernel) rfl
theorem zl_X3_27 : Cond.methodLink RX3 27 yX4_makeDry ∈ z_W := z_mem 270 (by decide +kernel) rfl
theorem zl_X4_26 : Cond.methodLink RX4 26 yJ7_fill_53178 ∈ z_W := z_mem 274 (by decide +kernel) rfl
theorem zl_X3_32 : Cond.methodLink RX3 32 yX3_nextLetter ∈ z_W := z_mem 275 (by decide +kernel) rfl
theorem zl_X3_81 : Cond.methodLink RX3 81 yX3_peek ∈ z_W := z_mem 279 (by decide +kernel) rfl
theorem zl_X3_36 : Cond.methodLink RX3 36 yX3_nextNumber ∈ z_W := z_mem 283 (by decide +kernel) rfl
theorem zl_X3_84 : Cond.methodLink RX3 84 yX3_nextFigure ∈ z_W := z_mem 287 (by decide +kernel) rfl
theorem zl_X3_39 : Cond.methodLink RX3 39 yX3_skip ∈ z_W := z_mem 292 (by decide +kernel) rfl
theorem zl_X3_43 : Cond.methodLink RX3 43 yX3_tellCell ∈ z_W := z_mem 296 (by decide +kernel) rfl
theorem zl_X3_55 : Cond.methodLink RX3 55 yX0_holds ∈ z_W := z_mem 299 (by decide +kernel) rfl
theorem zl_X3_47 : Cond.methodLink RX3 47 yX0_shape ∈ z_W := z_mem 303 (by decide +kernel) rfl
theorem zl_X3_51 : Cond.methodLink RX3 51 yX3_finish ∈ z_W := z_mem 304 (by decide +kernel) rfl
theorem zl_X3_72 : Cond.methodLink RX3 72 yX0_link ∈ z_W := z_mem 307 (by decide +kernel) rfl
theorem zl_X0_59 : Cond.methodLink RX0 59 yJ7_fill_d0a16 ∈ z_W := z_mem 311 (by decide +kernel) rfl
theorem zl_X0_62 : Cond.methodLink RX0 62 yX0_linkSide ∈ z_W := z_mem 314 (by decide +kernel) rfl
theorem zl_X0_46 : Cond.methodLink RX0 46 yX0_holds ∈ z_W := z_mem 318 (by decide +kernel) rfl
theorem zl_X0_66 : Cond.methodLink RX0 66 yX0_walkable ∈ z_W := z_mem 319 (by decide +kernel) rfl
theorem zl_X3_78 : Cond.methodLink RX3 78 yX0_takesRain ∈ z_W := z_mem 323 (by decide +kernel) rfl
theorem zl_X5_193 : Cond.methodLink RX5 193 yX0_copyFrom ∈ z_W := z_mem 327 (by decide +kernel) rfl
theorem zl_X5_162 : Cond.methodLink RX5 162 yX4_copyFrom ∈ z_W := z_mem 334 (by decide +kernel) rfl
theorem zl_X5_152 : Cond.methodLink RX5 152 yX4_flow ∈ z_W := z_mem 339 (by decide +kernel) rfl
theorem zl_X4_74 : Cond.methodLink RX4 74 yX4_wetBits ∈ z_W := z_mem 343 (by decide +kernel) rfl
theorem zl_X4_79 : Cond.methodLink RX4 79 yX4_flowFrom ∈ z_W := z_mem 348 (by decide +kernel) rfl
theorem zl_X4_82 : Cond.methodLink RX4 82 yX4_whereTo ∈ z_W := z_mem 352 (by decide +kernel) rfl
theorem zl_X4_71 : Cond.methodLink RX4 71 yX0_holds ∈ z_W := z_mem 356 (by decide +kernel) rfl
theorem zl_X4_64 : Cond.methodLink RX4 64 yX4_putDrop ∈ z_W := z_mem 358 (by decide +kernel) rfl
theorem zl_X4_43 : Cond.methodLink RX4 43 yX0_takesRain ∈ z_W := z_mem 362 (by decide +kernel) rfl
theorem zl_X4_88 : Cond.methodLink RX4 88 yX0_bitsBeside ∈ z_W := z_mem 363 (by decide +kernel) rfl
theorem zl_X5_84 : Cond.methodLink RX5 84 yX3_empty ∈ z_W := z_mem 367 (by decide +kernel) rfl
theorem zl_L_13 : Cond.methodLink RL 13 yX5_write ∈ z_W := z_mem 406 (by decide +kernel) rfl
theorem zl_L_18 : Cond.methodLink RL 18 yX5_wipe ∈ z_W := z_mem 410 (by decide +kernel) rfl
theorem zl_L_23 : Cond.methodLink RL 23 yX5_fault ∈ z_W := z_mem 414 (by decide +kernel) rfl
theorem zl_L_27 : Cond.methodLink RL 27 yX5_lay ∈ z_W := z_mem 418 (by decide +kernel) rfl
theorem zl_L_31 : Cond.methodLink RL 31 yX5_cell ∈ z_W := z_mem 422 (by decide +kernel) rfl
theorem zl_X5_96 : Cond.methodLink RX5 96 yX0_holds ∈ z_W := z_mem 426 (by decide +kernel) rfl
theorem zl_X5_100 : Cond.methodLink RX5 100 yX5_isFrom ∈ z_W := z_mem 427 (by decide +kernel) rfl
theorem zl_X5_113 : Cond.methodLink RX5 113 yX2_map ∈ z_W := z_mem 428 (by decide +kernel) rfl
theorem zl_X2_28 : Cond.methodLink RX2 28 yJ7_fill_53178 ∈ z_W := z_mem 432 (by decide +kernel) rfl
theorem zl_X2_42 : Cond.methodLink RX2 42 yX2_spread ∈ z_W := z_mem 433 (by decide +kernel) rfl
theorem zl_X2_46 : Cond.methodLink RX2 46 yX2_claim ∈ z_W := z_mem 437 (by decide +kernel) rfl
theorem zl_X2_50 : Cond.methodLink RX2 50 yX0_cellBeside ∈ z_W := z_mem 441 (by decide +kernel) rfl
theorem zl_X5_117 : Cond.methodLink RX5 117 yX2_stateOf ∈ z_W := z_mem 445 (by decide +kernel) rfl
theorem zl_X5_121 : Cond.methodLink RX5 121 yX2_sizeAt ∈ z_W := z_mem 449 (by decide +kernel) rfl
theorem zl_X2_54 : Cond.methodLink RX2 54 yX2_stateOf ∈ z_W := z_mem 453 (by decide +kernel) rfl
theorem zl_X5_124 : Cond.methodLink RX5 124 yX2_depthAt ∈ z_W := z_mem 454 (by decide +kernel) rfl
theorem zl_L_36 : Cond.methodLink RL 36 yX5_rain ∈ z_W := z_mem 461 (by decide +kernel) rfl
theorem zl_X5_128 : Cond.methodLink RX5 128 yX1_push ∈ z_W := z_mem 465 (by decide +kernel) rfl
theorem zl_X1_25 : Cond.methodLink RX1 25 yX1_dropOldest ∈ z_W := z_mem 469 (by decide +kernel) rfl
theorem zl_X5_132 : Cond.methodLink RX5 132 yX4_pour ∈ z_W := z_mem 474 (by decide +kernel) rfl
theorem zl_X4_53 : Cond.methodLink RX4 53 yX4_flow ∈ z_W := z_mem 481 (by decide +kernel) rfl
theorem zl_X5_136 : Cond.methodLink RX5 136 yX4_allDrops ∈ z_W := z_mem 482 (by decide +kernel) rfl
theorem zl_L_40 : Cond.methodLink RL 40 yX5_shine ∈ z_W := z_mem 486 (by decide +kernel) rfl
theorem zl_X5_140 : Cond.methodLink RX5 140 yX4_passHours ∈ z_W := z_mem 490 (by decide +kernel) rfl
theorem zl_X4_57 : Cond.methodLink RX4 57 yX4_passHour ∈ z_W := z_mem 494 (by decide +kernel) rfl
theorem zl_X4_60 : Cond.methodLink RX4 60 yX0_isKind ∈ z_W := z_mem 498 (by decide +kernel) rfl
theorem zl_L_44 : Cond.methodLink RL 44 yX5_boot ∈ z_W := z_mem 502 (by decide +kernel) rfl
theorem zl_X5_146 : Cond.methodLink RX5 146 yX4_stepInto ∈ z_W := z_mem 506 (by decide +kernel) rfl
theorem zl_X4_68 : Cond.methodLink RX4 68 yX0_cellBeside ∈ z_W := z_mem 510 (by decide +kernel) rfl
theorem zl_L_48 : Cond.methodLink RL 48 yX5_stone ∈ z_W := z_mem 511 (by decide +kernel) rfl
theorem zl_X5_149 : Cond.methodLink RX5 149 yX0_takesRain ∈ z_W := z_mem 515 (by decide +kernel) rfl
theorem zl_L_53 : Cond.methodLink RL 53 yX5_undo ∈ z_W := z_mem 516 (by decide +kernel) rfl
theorem zl_X5_159 : Cond.methodLink RX5 159 yX1_pop ∈ z_W := z_mem 520 (by decide +kernel) rfl
theorem zl_L_57 : Cond.methodLink RL 57 yX5_behind ∈ z_W := z_mem 524 (by decide +kernel) rfl
theorem zl_L_62 : Cond.methodLink RL 62 yX5_dry ∈ z_W := z_mem 528 (by decide +kernel) rfl
theorem zl_X5_165 : Cond.methodLink RX5 165 yX4_firstWet ∈ z_W := z_mem 532 (by decide +kernel) rfl
theorem zl_X5_168 : Cond.methodLink RX5 168 yX4_passHour ∈ z_W := z_mem 536 (by decide +kernel) rfl
theorem zl_L_66 : Cond.methodLink RL 66 yX5_join ∈ z_W := z_mem 537 (by decide +kernel) rfl
theorem zl_X5_171 : Cond.methodLink RX5 171 yX5_areTwo ∈ z_W := z_mem 541 (by decide +kernel) rfl
theorem zl_X5_175 : Cond.methodLink RX5 175 yX5_apartBehindRain ∈ z_W := z_mem 545 (by decide +kernel) rfl
theorem zl_X5_179 : Cond.methodLink RX5 179 yX2_apart ∈ z_W := z_mem 549 (by decide +kernel) rfl
theorem zl_L_70 : Cond.methodLink RL 70 yX5_part ∈ z_W := z_mem 553 (by decide +kernel) rfl
theorem zl_L_74 : Cond.methodLink RL 74 yX5_way ∈ z_W := z_mem 557 (by decide +kernel) rfl
theorem zl_X5_182 : Cond.methodLink RX5 182 yX0_withBeside ∈ z_W := z_mem 561 (by decide +kernel) rfl
theorem zl_X5_186 : Cond.methodLink RX5 186 yX4_wetBits ∈ z_W := z_mem 565 (by decide +kernel) rfl
theorem zl_L_78 : Cond.methodLink RL 78 yX5_kerb ∈ z_W := z_mem 566 (by decide +kernel) rfl
theorem zl_X5_190 : Cond.methodLink RX5 190 yX5_mayBeKerb ∈ z_W := z_mem 570 (by decide +kernel) rfl
theorem zl_X5_195 : Cond.methodLink RX5 195 yX0_makeKerb ∈ z_W := z_mem 574 (by decide +kernel) rfl
theorem zl_X0_50 : Cond.methodLink RX0 50 yX0_link ∈ z_W := z_mem 578 (by decide +kernel) rfl
theorem zl_L_82 : Cond.methodLink RL 82 yX5_ring ∈ z_W := z_mem 579 (by decide +kernel) rfl
theorem zl_L_86 : Cond.methodLink RL 86 yX5_forget ∈ z_W := z_mem 583 (by decide +kernel) rfl
theorem zl_L_90 : Cond.methodLink RL 90 yX5_rains ∈ z_W := z_mem 587 (by decide +kernel) rfl
theorem zl_X5_200 : Cond.methodLink RX5 200 yX5_ringsHold ∈ z_W := z_mem 592 (by decide +kernel) rfl
theorem zl_L_94 : Cond.methodLink RL 94 yX5_sky ∈ z_W := z_mem 596 (by decide +kernel) rfl
theorem zl_X5_203 : Cond.methodLink RX5 203 yX4_wetCells ∈ z_W := z_mem 600 (by decide +kernel) rfl
theorem zl_X5_206 : Cond.methodLink RX5 206 yX5_lowestTerms ∈ z_W := z_mem 604 (by decide +kernel) rfl
theorem zl_X5_229 : Cond.methodLink RX5 229 yX5_commonDivisor ∈ z_W := z_mem 607 (by decide +kernel) rfl
theorem zl_L_98 : Cond.methodLink RL 98 yX5_sun ∈ z_W := z_mem 610 (by decide +kernel) rfl
theorem zl_X5_210 : Cond.methodLink RX5 210 yX5_wetBehindHours ∈ z_W := z_mem 614 (by decide +kernel) rfl
theorem zl_X5_214 : Cond.methodLink RX5 214 yJ6_bitCount_0f7a4 ∈ z_W := z_mem 618 (by decide +kernel) rfl
theorem zl_X5_219 : Cond.methodLink RX5 219 yX5_power ∈ z_W := z_mem 624 (by decide +kernel) rfl
theorem zl_L_103 : Cond.methodLink RL 103 yX5_year ∈ z_W := z_mem 627 (by decide +kernel) rfl
theorem zl_X5_222 : Cond.methodLink RX5 222 yX5_drawOf ∈ z_W := z_mem 631 (by decide +kernel) rfl
theorem zl_L_107 : Cond.methodLink RL 107 yX5_keep ∈ z_W := z_mem 638 (by decide +kernel) rfl
theorem zl_L_111 : Cond.methodLink RL 111 yX5_back ∈ z_W := z_mem 642 (by decide +kernel) rfl
theorem zl_L_115 : Cond.methodLink RL 115 yX5_count ∈ z_W := z_mem 646 (by decide +kernel) rfl
theorem zl_L_12 : Cond.methodLink RL 12 yX6_init ∈ z_W := z_mem 652 (by decide +kernel) rfl
theorem zl_X6_47 : Cond.methodLink RX6 47 yX6_begins ∈ z_W := z_mem 656 (by decide +kernel) rfl
theorem zl_X6_57 : Cond.methodLink RX6 57 yX6_in ∈ z_W := z_mem 660 (by decide +kernel) rfl
theorem zl_X6_50 : Cond.methodLink RX6 50 yX6_lays ∈ z_W := z_mem 663 (by decide +kernel) rfl
theorem zl_X6_86 : Cond.methodLink RX6 86 yX6_flows ∈ z_W := z_mem 667 (by decide +kernel) rfl
theorem zl_X6_53 : Cond.methodLink RX6 53 yX6_cells ∈ z_W := z_mem 671 (by decide +kernel) rfl
theorem zl_X6_112 : Cond.methodLink RX6 112 yX6_sends ∈ z_W := z_mem 675 (by decide +kernel) rfl
theorem zl_X6_101 : Cond.methodLink RX6 101 yX6_beside ∈ z_W := z_mem 679 (by decide +kernel) rfl
theorem zl_X6_98 : Cond.methodLink RX6 98 yX6_isCell ∈ z_W := z_mem 683 (by decide +kernel) rfl
theorem zl_X6_105 : Cond.methodLink RX6 105 yX6_level ∈ z_W := z_mem 687 (by decide +kernel) rfl
theorem zl_X6_108 : Cond.methodLink RX6 108 yX6_drops ∈ z_W := z_mem 691 (by decide +kernel) rfl
theorem zl_L_17 : Cond.methodLink RL 17 yX6_write ∈ z_W := z_mem 748 (by decide +kernel) rfl
theorem zl_L_22 : Cond.methodLink RL 22 yX6_wipe ∈ z_W := z_mem 752 (by decide +kernel) rfl
theorem zl_L_26 : Cond.methodLink RL 26 yX6_fault ∈ z_W := z_mem 756 (by decide +kernel) rfl
theorem zl_X6_83 : Cond.methodLink RX6 83 yX6_readsAll ∈ z_W := z_mem 760 (by decide +kernel) rfl
theorem zl_X6_80 : Cond.methodLink RX6 80 yX6_readsItem ∈ z_W := z_mem 764 (by decide +kernel) rfl
theorem zl_X6_76 : Cond.methodLink RX6 76 yX6_number ∈ z_W := z_mem 768 (by decide +kernel) rfl
theorem zl_X6_68 : Cond.methodLink RX6 68 yX6_letterAt ∈ z_W := z_mem 772 (by decide +kernel) rfl
theorem zl_X6_72 : Cond.methodLink RX6 72 yX6_isFigure ∈ z_W := z_mem 776 (by decide +kernel) rfl
theorem zl_L_30 : Cond.methodLink RL 30 yX6_lay ∈ z_W := z_mem 779 (by decide +kernel) rfl
theorem zl_L_35 : Cond.methodLink RL 35 yX6_cell ∈ z_W := z_mem 783 (by decide +kernel) rfl
theorem zl_X6_118 : Cond.methodLink RX6 118 yX6_laysStates ∈ z_W := z_mem 787 (by decide +kernel) rfl
theorem zl_X6_121 : Cond.methodLink RX6 121 yX6_sizeOf ∈ z_W := z_mem 791 (by decide +kernel) rfl
theorem zl_L_39 : Cond.methodLink RL 39 yX6_rain ∈ z_W := z_mem 795 (by decide +kernel) rfl
theorem zl_X6_124 : Cond.methodLink RX6 124 yX6_keeps ∈ z_W := z_mem 799 (by decide +kernel) rfl
theorem zl_X6_127 : Cond.methodLink RX6 127 yX6_pours ∈ z_W := z_mem 803 (by decide +kernel) rfl
theorem zl_X6_115 : Cond.methodLink RX6 115 yX6_isOpen ∈ z_W := z_mem 807 (by decide +kernel) rfl
theorem zl_X6_131 : Cond.methodLink RX6 131 yX6_all ∈ z_W := z_mem 811 (by decide +kernel) rfl
theorem zl_L_43 : Cond.methodLink RL 43 yX6_shine ∈ z_W := z_mem 815 (by decide +kernel) rfl
theorem zl_X6_134 : Cond.methodLink RX6 134 yX6_shines ∈ z_W := z_mem 819 (by decide +kernel) rfl
theorem zl_L_47 : Cond.methodLink RL 47 yX6_boot ∈ z_W := z_mem 823 (by decide +kernel) rfl
theorem zl_L_52 : Cond.methodLink RL 52 yX6_stone ∈ z_W := z_mem 827 (by decide +kernel) rfl
theorem zl_L_56 : Cond.methodLink RL 56 yX6_undo ∈ z_W := z_mem 831 (by decide +kernel) rfl
theorem zl_L_61 : Cond.methodLink RL 61 yX6_behind ∈ z_W := z_mem 835 (by decide +kernel) rfl
theorem zl_X6_137 : Cond.methodLink RX6 137 yX6_holds ∈ z_W := z_mem 839 (by decide +kernel) rfl
theorem zl_X6_140 : Cond.methodLink RX6 140 yX6_lets ∈ z_W := z_mem 843 (by decide +kernel) rfl
theorem zl_L_65 : Cond.methodLink RL 65 yX6_dry ∈ z_W := z_mem 847 (by decide +kernel) rfl
theorem zl_X6_143 : Cond.methodLink RX6 143 yX6_lowest ∈ z_W := z_mem 851 (by decide +kernel) rfl
theorem zl_L_69 : Cond.methodLink RL 69 yX6_join ∈ z_W := z_mem 855 (by decide +kernel) rfl
theorem zl_X6_146 : Cond.methodLink RX6 146 yX6_isOne ∈ z_W := z_mem 859 (by decide +kernel) rfl
theorem zl_L_73 : Cond.methodLink RL 73 yX6_part ∈ z_W := z_mem 863 (by decide +kernel) rfl
theorem zl_L_77 : Cond.methodLink RL 77 yX6_way ∈ z_W := z_mem 867 (by decide +kernel) rfl
theorem zl_L_81 : Cond.methodLink RL 81 yX6_kerb ∈ z_W := z_mem 871 (by decide +kernel) rfl
theorem zl_X6_150 : Cond.methodLink RX6 150 yX6_areApart ∈ z_W := z_mem 875 (by decide +kernel) rfl
theorem zl_L_85 : Cond.methodLink RL 85 yX6_ring ∈ z_W := z_mem 879 (by decide +kernel) rfl
theorem zl_L_89 : Cond.methodLink RL 89 yX6_forget ∈ z_W := z_mem 883 (by decide +kernel) rfl
theorem zl_L_93 : Cond.methodLink RL 93 yX6_rains ∈ z_W := z_mem 887 (by decide +kernel) rfl
theorem zl_L_97 : Cond.methodLink RL 97 yX6_sky ∈ z_W := z_mem 891 (by decide +kernel) rfl
theorem zl_X6_153 : Cond.methodLink RX6 153 yX6_wet ∈ z_W := z_mem 895 (by decide +kernel) rfl
theorem zl_X6_156 : Cond.methodLink RX6 156 yX6_common ∈ z_W := z_mem 899 (by decide +kernel) rfl
theorem zl_L_102 : Cond.methodLink RL 102 yX6_sun ∈ z_W := z_mem 902 (by decide +kernel) rfl
theorem zl_L_106 : Cond.methodLink RL 106 yX6_year ∈ z_W := z_mem 906 (by decide +kernel) rfl
theorem zl_X6_165 : Cond.methodLink RX6 165 yX6_manyStates ∈ z_W := z_mem 913 (by decide +kernel) rfl
theorem zl_L_110 : Cond.methodLink RL 110 yX6_keep ∈ z_W := z_mem 917 (by decide +kernel) rfl
theorem zl_L_114 : Cond.methodLink RL 114 yX6_back ∈ z_W := z_mem 921 (by decide +kernel) rfl
theorem zl_L_118 : Cond.methodLink RL 118 yX6_count ∈ z_W := z_mem 925 (by decide +kernel) rfl
theorem zn_X5_11 : Cond.methodLinkNest RX5 11 yX3_init RX5 ∈ z_nest := by simp [z_nest]
theorem zn_X5_18 : Cond.methodLinkNest RX5 18 yX0_init RX5 ∈ z_nest := by simp [z_nest]
theorem zn_X5_25 : Cond.methodLinkNest RX5 25 yX4_init RX5 ∈ z_nest := by simp [z_nest]
theorem zn_X5_38 : Cond.methodLinkNest RX5 38 yX2_init RX5 ∈ z_nest := by simp [z_nest]
theorem zn_X5_45 : Cond.methodLinkNest RX5 45 yX1_init RX5 ∈ z_nest := by simp [z_nest]
theorem zn_X0_32 : Cond.methodLinkNest RX0 32 yX5_isFrom RX5 ∈ z_nest := by simp [z_nest]
theorem zn_X3_58 : Cond.methodLinkNest RX3 58 yX5_isFrom RX5 ∈ z_nest := by simp [z_nest]
theorem zv_J0_length_8abf5 : z_V yJ0_length_8abf5 cJ0_length_8abf5 1 (some .int) 0 := ⟨z_mem 199 (by decide +kernel) rfl, z_mem 53 (by decide +kernel) rfl, ⟨by decide +kernel, by decide +kernel⟩, by decide +kernel, z_mem 197 (by decide +kernel) rfl, z_mem 198 (by decide +kernel) rfl⟩
theorem zv_J0_coder_7d493 : z_V yJ0_coder_7d493 cJ0_coder_7d493 1 (some .byte) 0 := ⟨z_mem 203 (by decide +kernel) rfl, z_mem 53 (by decide +kernel) rfl, ⟨by decide +kernel, by decide +kernel⟩, by decide +kernel, z_mem 201 (by decide +kernel) rfl, z_mem 202 (by decide +kernel) rfl⟩
theorem zv_J0_charAt_5068e : z_V yJ0_charAt_5068e cJ0_charAt_5068e 2 (some .char) 1 := ⟨z_mem 209 (by decide +kernel) rfl, z_mem 53 (by decide +kernel) rfl, ⟨by decide +kernel, by decide +kernel⟩, by decide +kernel, z_mem 207 (by decide +kernel) rfl, z_mem 208 (by decide +kernel) rfl⟩
theorem zv_J0_isLatin1_aae02 : z_V yJ0_isLatin1_aae02 cJ0_isLatin1_aae02 1 (some .boolean) 0 := ⟨z_mem 213 (by decide +kernel) rfl, z_mem 53 (by decide +kernel) rfl, ⟨by decide +kernel, by decide +kernel⟩, by decide +kernel, z_mem 211 (by decide +kernel) rfl, z_mem 212 (by decide +kernel) rfl⟩
theorem zs_J1_charAt_3b067 : z_S yJ1_charAt_3b067 cJ1_charAt_3b067 2 (some .char) 2 := ⟨z_mem 216 (by decide +kernel) rfl, z_mem 54 (by decide +kernel) rfl, ⟨by decide +kernel, by decide +kernel⟩, by decide +kernel, z_mem 215 (by decide +kernel) rfl⟩
theorem zs_J0_checkIndex_df160 : z_S yJ0_checkIndex_df160 cJ0_checkIndex_df160 2 none 2 := ⟨z_mem 219 (by decide +kernel) rfl, z_mem 53 (by decide +kernel) rfl, ⟨by decide +kernel, by decide +kernel⟩, by decide +kernel, z_mem 218 (by decide +kernel) rfl⟩
theorem zs_J3_checkIndex_8e157 : z_S yJ3_checkIndex_8e157 cJ3_checkIndex_8e157 3 (some .int) 3 := ⟨z_mem 224 (by decide +kernel) rfl, z_mem 55 (by decide +kernel) rfl, ⟨by decide +kernel, by decide +kernel⟩, by decide +kernel, z_mem 223 (by decide +kernel) rfl⟩
theorem zs_J2_charAt_3b067 : z_S yJ2_charAt_3b067 cJ2_charAt_3b067 2 (some .char) 2 := ⟨z_mem 227 (by decide +kernel) rfl, z_mem 56 (by decide +kernel) rfl, ⟨by decide +kernel, by decide +kernel⟩, by decide +kernel, z_mem 226 (by decide +kernel) rfl⟩
theorem zs_J2_checkIndex_2214a : z_S yJ2_checkIndex_2214a cJ2_checkIndex_2214a 2 none 2 := ⟨z_mem 230 (by decide +kernel) rfl, z_mem 56 (by decide +kernel) rfl, ⟨by decide +kernel, by decide +kernel⟩, by decide +kernel, z_mem 229 (by decide +kernel) rfl⟩
theorem zs_J2_length_9d52b : z_S yJ2_length_9d52b cJ2_length_9d52b 1 (some .int) 1 := ⟨z_mem 233 (by decide +kernel) rfl, z_mem 56 (by decide +kernel) rfl, ⟨by decide +kernel, by decide +kernel⟩, by decide +kernel, z_mem 232 (by decide +kernel) rfl⟩
theorem zs_J2_getChar_3b067 : z_S yJ2_getChar_3b067 cJ2_getChar_3b067 2 (some .char) 2 := ⟨z_mem 237 (by decide +kernel) rfl, z_mem 56 (by decide +kernel) rfl, ⟨by decide +kernel, by decide +kernel⟩, by decide +kernel, z_mem 236 (by decide +kernel) rfl⟩
theorem zv_X3_add : z_V yX3_add cX3_add 2 none 1 := ⟨z_mem 247 (by decide +kernel) rfl, z_mem 48 (by decide +kernel) rfl, ⟨by decide +kernel, by decide +kernel⟩, by decide +kernel, z_mem 245 (by decide +kernel) rfl, z_mem 246 (by decide +kernel) rfl⟩
theorem zv_X5_layText : z_V yX5_layText cX5_layText 1 (some .boolean) 0 := ⟨z_mem 251 (by decide +kernel) rfl, z_mem 47 (by decide +kernel) rfl, ⟨by decide +kernel, by decide +kernel⟩, by decide +kernel, z_mem 250 (by decide +kernel) rfl, z_mem 0 (by decide +kernel) rfl⟩
theorem zv_X3_readInto : z_V yX3_readInto cX3_readInto 11 (some .int) 2 := ⟨z_mem 255 (by decide +kernel) rfl, z_mem 48 (by decide +kernel) rfl, ⟨by decide +kernel, by decide +kernel⟩, by decide +kernel, z_mem 253 (by decide +kernel) rfl, z_mem 254 (by decide +kernel) rfl⟩
theorem zv_X0_makeOpen : z_V yX0_makeOpen cX0_makeOpen 1 none 0 := ⟨z_mem 259 (by decide +kernel) rfl, z_mem 49 (by decide +kernel) rfl, ⟨by decide +kernel, by decide +kernel⟩, by decide +kernel, z_mem 257 (by decide +kernel) rfl, z_mem 258 (by decide +kernel) rfl⟩
theorem zv_X0_shape : z_V yX0_shape cX0_shape 3 (some .boolean) 2 := ⟨z_mem 263 (by decide +kernel) rfl, z_mem 49 (by decide +kernel) rfl, ⟨by decide +kernel, by decide +kernel⟩, by decide +kernel, z_mem 261 (by decide +kernel) rfl, z_mem 262 (by decide +kernel) rfl⟩
theorem zs_X5_isFrom : z_S yX5_isFrom cX5_isFrom 3 (some .boolean) 3 := ⟨z_mem 266 (by decide +kernel) rfl, z_mem 47 (by decide +kernel) rfl, ⟨by decide +kernel, by decide +kernel⟩, by decide +kernel, z_mem 265 (by decide +kernel) rfl⟩
theorem zs_J7_fill_53178 : z_S yJ7_fill_53178 cJ7_fill_53178 4 none 2 := ⟨z_mem 269 (by decide +kernel) rfl, z_mem 57 (by decide +kernel) rfl, ⟨by decide +kernel, by decide +kernel⟩, by decide +kernel, z_mem 268 (by decide +kernel) rfl⟩
theorem zv_X4_makeDry : z_V yX4_makeDry cX4_makeDry 1 none 0 := ⟨z_mem 273 (by decide +kernel) rfl, z_mem 50 (by decide +kernel) rfl, ⟨by decide +kernel, by decide +kernel⟩, by decide +kernel, z_mem 271 (by decide +kernel) rfl, z_mem 272 (by decide +kernel) rfl⟩
theorem zv_X3_nextLetter : z_V yX3_nextLetter cX3_nextLetter 2 (some .int) 0 := ⟨z_mem 278 (by decide +kernel) rfl, z_mem 48 (by decide +kernel) rfl, ⟨by decide +kernel, by decide +kernel⟩, by decide +kernel, z_mem 277 (by decide +kernel) rfl, z_mem 1 (by decide +kernel) rfl⟩
theorem zv_X3_peek : z_V yX3_peek cX3_peek 1 (some .int) 0 := ⟨z_mem 282 (by decide +kernel) rfl, z_mem 48 (by decide +kernel) rfl, ⟨by decide +kernel, by decide +kernel⟩, by decide +kernel, z_mem 281 (by decide +kernel) rfl, z_mem 2 (by decide +kernel) rfl⟩
theorem zv_X3_nextNumber : z_V yX3_nextNumber cX3_nextNumber 3 (some .int) 0 := ⟨z_mem 286 (by decide +kernel) rfl, z_mem 48 (by decide +kernel) rfl, ⟨by decide +kernel, by decide +kernel⟩, by decide +kernel, z_mem 285 (by decide +kernel) rfl, z_mem 3 (by decide +kernel) rfl⟩
theorem zv_X3_nextFigure : z_V yX3_nextFigure cX3_nextFigure 2 (some .int) 0 := ⟨z_mem 290 (by decide +kernel) rfl, z_mem 48 (by decide +kernel) rfl, ⟨by decide +kernel, by decide +kernel⟩, by decide +kernel, z_mem 289 (by decide +kernel) rfl, z_mem 4 (by decide +kernel) rfl⟩
theorem zv_X3_skip : z_V yX3_skip cX3_skip 3 (some .boolean) 1 := ⟨z_mem 295 (by decide +kernel) rfl, z_mem 48 (by decide +kernel) rfl, ⟨by decide +kernel, by decide +kernel⟩, by decide +kernel, z_mem 294 (by decide +kernel) rfl, z_mem 5 (by decide +kernel) rfl⟩
theorem zs_X3_tellCell : z_S yX3_tellCell cX3_tellCell 5 (some .boolean) 5 := ⟨z_mem 298 (by decide +kernel) rfl, z_mem 48 (by decide +kernel) rfl, ⟨by decide +kernel, by decide +kernel⟩, by decide +kernel, z_mem 297 (by decide +kernel) rfl⟩
theorem zv_X0_holds : z_V yX0_holds cX0_holds 2 (some .boolean) 1 := ⟨z_mem 302 (by decide +kernel) rfl, z_mem 49 (by decide +kernel) rfl, ⟨by decide +kernel, by decide +kernel⟩, by decide +kernel, z_mem 300 (by decide +kernel) rfl, z_mem 301 (by decide +kernel) rfl⟩
theorem zs_X3_finish : z_S yX3_finish cX3_finish 3 none 2 := ⟨z_mem 306 (by decide +kernel) rfl, z_mem 48 (by decide +kernel) rfl, ⟨by decide +kernel, by decide +kernel⟩, by decide +kernel, z_mem 305 (by decide +kernel) rfl⟩
theorem zv_X0_link : z_V yX0_link cX0_link 4 none 0 := ⟨z_mem 310 (by decide +kernel) rfl, z_mem 49 (by decide +kernel) rfl, ⟨by decide +kernel, by decide +kernel⟩, by decide +kernel, z_mem 308 (by decide +kernel) rfl, z_mem 309 (by decide +kernel) rfl⟩
theorem zs_J7_fill_d0a16 : z_S yJ7_fill_d0a16 cJ7_fill_d0a16 5 none 2 := ⟨z_mem 313 (by decide +kernel) rfl, z_mem 57 (by decide +kernel) rfl, ⟨by decide +kernel, by decide +kernel⟩, by decide +kernel, z_mem 312 (by decide +kernel) rfl⟩
theorem zv_X0_linkSide : z_V yX0_linkSide cX0_linkSide 6 none 4 := ⟨z_mem 317 (by decide +kernel) rfl, z_mem 49 (by decide +kernel) rfl, ⟨by decide +kernel, by decide +kernel⟩, by decide +kernel, z_mem 316 (by decide +kernel) rfl, z_mem 6 (by decide +kernel) rfl⟩
theorem zv_X0_walkable : z_V yX0_walkable cX0_walkable 4 (some .int) 2 := ⟨z_mem 322 (by decide +kernel) rfl, z_mem 49 (by decide +kernel) rfl, ⟨by decide +kernel, by decide +kernel⟩, by decide +kernel, z_mem 321 (by decide +kernel) rfl, z_mem 7 (by decide +kernel) rfl⟩
theorem zv_X0_takesRain : z_V yX0_takesRain cX0_takesRain 2 (some .boolean) 1 := ⟨z_mem 326 (by decide +kernel) rfl, z_mem 49 (by decide +kernel) rfl, ⟨by decide +kernel, by decide +kernel⟩, by decide +kernel, z_mem 324 (by decide +kernel) rfl, z_mem 325 (by decide +kernel) rfl⟩
theorem zv_X0_copyFrom : z_V yX0_copyFrom cX0_copyFrom 2 none 1 := ⟨z_mem 330 (by decide +kernel) rfl, z_mem 49 (by decide +kernel) rfl, ⟨by decide +kernel, by decide +kernel⟩, by decide +kernel, z_mem 328 (by decide +kernel) rfl, z_mem 329 (by decide +kernel) rfl⟩
theorem zv_X4_copyFrom : z_V yX4_copyFrom cX4_copyFrom 2 none 1 := ⟨z_mem 337 (by decide +kernel) rfl, z_mem 50 (by decide +kernel) rfl, ⟨by decide +kernel, by decide +kernel⟩, by decide +kernel, z_mem 335 (by decide +kernel) rfl, z_mem 336 (by decide +kernel) rfl⟩
theorem zv_X4_flow : z_V yX4_flow cX4_flow 4 none 1 := ⟨z_mem 342 (by decide +kernel) rfl, z_mem 50 (by decide +kernel) rfl, ⟨by decide +kernel, by decide +kernel⟩, by decide +kernel, z_mem 340 (by decide +kernel) rfl, z_mem 341 (by decide +kernel) rfl⟩
theorem zv_X4_wetBits : z_V yX4_wetBits cX4_wetBits 5 (some .long) 1 := ⟨z_mem 346 (by decide +kernel) rfl, z_mem 50 (by decide +kernel) rfl, ⟨by decide +kernel, by decide +kernel⟩, by decide +kernel, z_mem 344 (by decide +kernel) rfl, z_mem 345 (by decide +kernel) rfl⟩
theorem zv_X4_flowFrom : z_V yX4_flowFrom cX4_flowFrom 4 none 2 := ⟨z_mem 351 (by decide +kernel) rfl, z_mem 50 (by decide +kernel) rfl, ⟨by decide +kernel, by decide +kernel⟩, by decide +kernel, z_mem 350 (by decide +kernel) rfl, z_mem 8 (by decide +kernel) rfl⟩
theorem zv_X4_whereTo : z_V yX4_whereTo cX4_whereTo 11 (some .int) 2 := ⟨z_mem 355 (by decide +kernel) rfl, z_mem 50 (by decide +kernel) rfl, ⟨by decide +kernel, by decide +kernel⟩, by decide +kernel, z_mem 354 (by decide +kernel) rfl, z_mem 9 (by decide +kernel) rfl⟩
theorem zv_X4_putDrop : z_V yX4_putDrop cX4_putDrop 3 none 2 := ⟨z_mem 361 (by decide +kernel) rfl, z_mem 50 (by decide +kernel) rfl, ⟨by decide +kernel, by decide +kernel⟩, by decide +kernel, z_mem 360 (by decide +kernel) rfl, z_mem 10 (by decide +kernel) rfl⟩
theorem zv_X0_bitsBeside : z_V yX0_bitsBeside cX0_bitsBeside 2 (some .long) 1 := ⟨z_mem 366 (by decide +kernel) rfl, z_mem 49 (by decide +kernel) rfl, ⟨by decide +kernel, by decide +kernel⟩, by decide +kernel, z_mem 364 (by decide +kernel) rfl, z_mem 365 (by decide +kernel) rfl⟩
theorem zv_X3_empty : z_V yX3_empty cX3_empty 1 none 0 := ⟨z_mem 370 (by decide +kernel) rfl, z_mem 48 (by decide +kernel) rfl, ⟨by decide +kernel, by decide +kernel⟩, by decide +kernel, z_mem 368 (by decide +kernel) rfl, z_mem 369 (by decide +kernel) rfl⟩
theorem zv_X5_write : z_V yX5_write cX5_write 2 (some .int) 1 := ⟨z_mem 409 (by decide +kernel) rfl, z_mem 47 (by decide +kernel) rfl, ⟨by decide +kernel, by decide +kernel⟩, by decide +kernel, z_mem 407 (by decide +kernel) rfl, z_mem 408 (by decide +kernel) rfl⟩
theorem zv_X5_wipe : z_V yX5_wipe cX5_wipe 2 (some .int) 0 := ⟨z_mem 413 (by decide +kernel) rfl, z_mem 47 (by decide +kernel) rfl, ⟨by decide +kernel, by decide +kernel⟩, by decide +kernel, z_mem 411 (by decide +kernel) rfl, z_mem 412 (by decide +kernel) rfl⟩
theorem zv_X5_fault : z_V yX5_fault cX5_fault 1 (some .int) 0 := ⟨z_mem 417 (by decide +kernel) rfl, z_mem 47 (by decide +kernel) rfl, ⟨by decide +kernel, by decide +kernel⟩, by decide +kernel, z_mem 415 (by decide +kernel) rfl, z_mem 416 (by decide +kernel) rfl⟩
theorem zv_X5_lay : z_V yX5_lay cX5_lay 1 (some .int) 0 := ⟨z_mem 421 (by decide +kernel) rfl, z_mem 47 (by decide +kernel) rfl, ⟨by decide +kernel, by decide +kernel⟩, by decide +kernel, z_mem 419 (by decide +kernel) rfl, z_mem 420 (by decide +kernel) rfl⟩
theorem zv_X5_cell : z_V yX5_cell cX5_cell 3 (some .int) 2 := ⟨z_mem 425 (by decide +kernel) rfl, z_mem 47 (by decide +kernel) rfl, ⟨by decide +kernel, by decide +kernel⟩, by decide +kernel, z_mem 423 (by decide +kernel) rfl, z_mem 424 (by decide +kernel) rfl⟩
theorem zv_X2_map : z_V yX2_map cX2_map 4 none 2 := ⟨z_mem 431 (by decide +kernel) rfl, z_mem 51 (by decide +kernel) rfl, ⟨by decide +kernel, by decide +kernel⟩, by decide +kernel, z_mem 429 (by decide +kernel) rfl, z_mem 430 (by decide +kernel) rfl⟩
theorem zv_X2_spread : z_V yX2_spread cX2_spread 7 none 3 := ⟨z_mem 436 (by decide +kernel) rfl, z_mem 51 (by decide +kernel) rfl, ⟨by decide +kernel, by decide +kernel⟩, by decide +kernel, z_mem 435 (by decide +kernel) rfl, z_mem 11 (by decide +kernel) rfl⟩
theorem zv_X2_claim : z_V yX2_claim cX2_claim 4 none 3 := ⟨z_mem 440 (by decide +kernel) rfl, z_mem 51 (by decide +kernel) rfl, ⟨by decide +kernel, by decide +kernel⟩, by decide +kernel, z_mem 439 (by decide +kernel) rfl, z_mem 12 (by decide +kernel) rfl⟩
theorem zv_X0_cellBeside : z_V yX0_cellBeside cX0_cellBeside 4 (some .int) 2 := ⟨z_mem 444 (by decide +kernel) rfl, z_mem 49 (by decide +kernel) rfl, ⟨by decide +kernel, by decide +kernel⟩, by decide +kernel, z_mem 442 (by decide +kernel) rfl, z_mem 443 (by decide +kernel) rfl⟩
theorem zv_X2_stateOf : z_V yX2_stateOf cX2_stateOf 2 (some .int) 1 := ⟨z_mem 448 (by decide +kernel) rfl, z_mem 51 (by decide +kernel) rfl, ⟨by decide +kernel, by decide +kernel⟩, by decide +kernel, z_mem 446 (by decide +kernel) rfl, z_mem 447 (by decide +kernel) rfl⟩
theorem zv_X2_sizeAt : z_V yX2_sizeAt cX2_sizeAt 5 (some .int) 1 := ⟨z_mem 452 (by decide +kernel) rfl, z_mem 51 (by decide +kernel) rfl, ⟨by decide +kernel, by decide +kernel⟩, by decide +kernel, z_mem 450 (by decide +kernel) rfl, z_mem 451 (by decide +kernel) rfl⟩
theorem zv_X2_depthAt : z_V yX2_depthAt cX2_depthAt 6 (some .int) 2 := ⟨z_mem 457 (by decide +kernel) rfl, z_mem 51 (by decide +kernel) rfl, ⟨by decide +kernel, by decide +kernel⟩, by decide +kernel, z_mem 455 (by decide +kernel) rfl, z_mem 456 (by decide +kernel) rfl⟩
theorem zv_X5_rain : z_V yX5_rain cX5_rain 2 (some .int) 1 := ⟨z_mem 464 (by decide +kernel) rfl, z_mem 47 (by decide +kernel) rfl, ⟨by decide +kernel, by decide +kernel⟩, by decide +kernel, z_mem 462 (by decide +kernel) rfl, z_mem 463 (by decide +kernel) rfl⟩
theorem zv_X1_push : z_V yX1_push cX1_push 2 none 1 := ⟨z_mem 468 (by decide +kernel) rfl, z_mem 52 (by decide +kernel) rfl, ⟨by decide +kernel, by decide +kernel⟩, by decide +kernel, z_mem 466 (by decide +kernel) rfl, z_mem 467 (by decide +kernel) rfl⟩
theorem zv_X1_dropOldest : z_V yX1_dropOldest cX1_dropOldest 1 none 0 := ⟨z_mem 472 (by decide +kernel) rfl, z_mem 52 (by decide +kernel) rfl, ⟨by decide +kernel, by decide +kernel⟩, by decide +kernel, z_mem 471 (by decide +kernel) rfl, z_mem 13 (by decide +kernel) rfl⟩
theorem zv_X4_pour : z_V yX4_pour cX4_pour 4 none 2 := ⟨z_mem 477 (by decide +kernel) rfl, z_mem 50 (by decide +kernel) rfl, ⟨by decide +kernel, by decide +kernel⟩, by decide +kernel, z_mem 475 (by decide +kernel) rfl, z_mem 476 (by decide +kernel) rfl⟩
theorem zv_X4_allDrops : z_V yX4_allDrops cX4_allDrops 4 (some .int) 1 := ⟨z_mem 485 (by decide +kernel) rfl, z_mem 50 (by decide +kernel) rfl, ⟨by decide +kernel, by decide +kernel⟩, by decide +kernel, z_mem 483 (by decide +kernel) rfl, z_mem 484 (by decide +kernel) rfl⟩
theorem zv_X5_shine : z_V yX5_shine cX5_shine 2 (some .int) 1 := ⟨z_mem 489 (by decide +kernel) rfl, z_mem 47 (by decide +kernel) rfl, ⟨by decide +kernel, by decide +kernel⟩, by decide +kernel, z_mem 487 (by decide +kernel) rfl, z_mem 488 (by decide +kernel) rfl⟩
theorem zv_X4_passHours : z_V yX4_passHours cX4_passHours 4 none 2 := ⟨z_mem 493 (by decide +kernel) rfl, z_mem 50 (by decide +kernel) rfl, ⟨by decide +kernel, by decide +kernel⟩, by decide +kernel, z_mem 491 (by decide +kernel) rfl, z_mem 492 (by decide +kernel) rfl⟩
theorem zv_X4_passHour : z_V yX4_passHour cX4_passHour 4 none 1 := ⟨z_mem 497 (by decide +kernel) rfl, z_mem 50 (by decide +kernel) rfl, ⟨by decide +kernel, by decide +kernel⟩, by decide +kernel, z_mem 495 (by decide +kernel) rfl, z_mem 496 (by decide +kernel) rfl⟩
theorem zv_X0_isKind : z_V yX0_isKind cX0_isKind 3 (some .boolean) 2 := ⟨z_mem 501 (by decide +kernel) rfl, z_mem 49 (by decide +kernel) rfl, ⟨by decide +kernel, by decide +kernel⟩, by decide +kernel, z_mem 499 (by decide +kernel) rfl, z_mem 500 (by decide +kernel) rfl⟩
theorem zv_X5_boot : z_V yX5_boot cX5_boot 2 (some .int) 1 := ⟨z_mem 505 (by decide +kernel) rfl, z_mem 47 (by decide +kernel) rfl, ⟨by decide +kernel, by decide +kernel⟩, by decide +kernel, z_mem 503 (by decide +kernel) rfl, z_mem 504 (by decide +kernel) rfl⟩
theorem zv_X4_stepInto : z_V yX4_stepInto cX4_stepInto 5 none 2 := ⟨z_mem 509 (by decide +kernel) rfl, z_mem 50 (by decide +kernel) rfl, ⟨by decide +kernel, by decide +kernel⟩, by decide +kernel, z_mem 507 (by decide +kernel) rfl, z_mem 508 (by decide +kernel) rfl⟩
theorem zv_X5_stone : z_V yX5_stone cX5_stone 4 (some .int) 2 := ⟨z_mem 514 (by decide +kernel) rfl, z_mem 47 (by decide +kernel) rfl, ⟨by decide +kernel, by decide +kernel⟩, by decide +kernel, z_mem 512 (by decide +kernel) rfl, z_mem 513 (by decide +kernel) rfl⟩
theorem zv_X5_undo : z_V yX5_undo cX5_undo 1 (some .int) 0 := ⟨z_mem 519 (by decide +kernel) rfl, z_mem 47 (by decide +kernel) rfl, ⟨by decide +kernel, by decide +kernel⟩, by decide +kernel, z_mem 517 (by decide +kernel) rfl, z_mem 518 (by decide +kernel) rfl⟩
theorem zv_X1_pop : z_V yX1_pop cX1_pop 2 none 1 := ⟨z_mem 523 (by decide +kernel) rfl, z_mem 52 (by decide +kernel) rfl, ⟨by decide +kernel, by decide +kernel⟩, by decide +kernel, z_mem 521 (by decide +kernel) rfl, z_mem 522 (by decide +kernel) rfl⟩
theorem zv_X5_behind : z_V yX5_behind cX5_behind 4 (some .int) 3 := ⟨z_mem 527 (by decide +kernel) rfl, z_mem 47 (by decide +kernel) rfl, ⟨by decide +kernel, by decide +kernel⟩, by decide +kernel, z_mem 525 (by decide +kernel) rfl, z_mem 526 (by decide +kernel) rfl⟩
theorem zv_X5_dry : z_V yX5_dry cX5_dry 5 (some .int) 1 := ⟨z_mem 531 (by decide +kernel) rfl, z_mem 47 (by decide +kernel) rfl, ⟨by decide +kernel, by decide +kernel⟩, by decide +kernel, z_mem 529 (by decide +kernel) rfl, z_mem 530 (by decide +kernel) rfl⟩
theorem zv_X4_firstWet : z_V yX4_firstWet cX4_firstWet 3 (some .int) 1 := ⟨z_mem 535 (by decide +kernel) rfl, z_mem 50 (by decide +kernel) rfl, ⟨by decide +kernel, by decide +kernel⟩, by decide +kernel, z_mem 533 (by decide +kernel) rfl, z_mem 534 (by decide +kernel) rfl⟩
theorem zv_X5_join : z_V yX5_join cX5_join 4 (some .int) 2 := ⟨z_mem 540 (by decide +kernel) rfl, z_mem 47 (by decide +kernel) rfl, ⟨by decide +kernel, by decide +kernel⟩, by decide +kernel, z_mem 538 (by decide +kernel) rfl, z_mem 539 (by decide +kernel) rfl⟩
theorem zv_X5_areTwo : z_V yX5_areTwo cX5_areTwo 3 (some .boolean) 2 := ⟨z_mem 544 (by decide +kernel) rfl, z_mem 47 (by decide +kernel) rfl, ⟨by decide +kernel, by decide +kernel⟩, by decide +kernel, z_mem 543 (by decide +kernel) rfl, z_mem 14 (by decide +kernel) rfl⟩
theorem zv_X5_apartBehindRain : z_V yX5_apartBehindRain cX5_apartBehindRain 5 (some .boolean) 4 := ⟨z_mem 548 (by decide +kernel) rfl, z_mem 47 (by decide +kernel) rfl, ⟨by decide +kernel, by decide +kernel⟩, by decide +kernel, z_mem 547 (by decide +kernel) rfl, z_mem 15 (by decide +kernel) rfl⟩
theorem zv_X2_apart : z_V yX2_apart cX2_apart 3 (some .boolean) 2 := ⟨z_mem 552 (by decide +kernel) rfl, z_mem 51 (by decide +kernel) rfl, ⟨by decide +kernel, by decide +kernel⟩, by decide +kernel, z_mem 550 (by decide +kernel) rfl, z_mem 551 (by decide +kernel) rfl⟩
theorem zv_X5_part : z_V yX5_part cX5_part 4 (some .int) 2 := ⟨z_mem 556 (by decide +kernel) rfl, z_mem 47 (by decide +kernel) rfl, ⟨by decide +kernel, by decide +kernel⟩, by decide +kernel, z_mem 554 (by decide +kernel) rfl, z_mem 555 (by decide +kernel) rfl⟩
theorem zv_X5_way : z_V yX5_way cX5_way 6 (some .int) 2 := ⟨z_mem 560 (by decide +kernel) rfl, z_mem 47 (by decide +kernel) rfl, ⟨by decide +kernel, by decide +kernel⟩, by decide +kernel, z_mem 558 (by decide +kernel) rfl, z_mem 559 (by decide +kernel) rfl⟩
theorem zv_X0_withBeside : z_V yX0_withBeside cX0_withBeside 6 (some .long) 1 := ⟨z_mem 564 (by decide +kernel) rfl, z_mem 49 (by decide +kernel) rfl, ⟨by decide +kernel, by decide +kernel⟩, by decide +kernel, z_mem 562 (by decide +kernel) rfl, z_mem 563 (by decide +kernel) rfl⟩
theorem zv_X5_kerb : z_V yX5_kerb cX5_kerb 5 (some .int) 3 := ⟨z_mem 569 (by decide +kernel) rfl, z_mem 47 (by decide +kernel) rfl, ⟨by decide +kernel, by decide +kernel⟩, by decide +kernel, z_mem 567 (by decide +kernel) rfl, z_mem 568 (by decide +kernel) rfl⟩
theorem zv_X5_mayBeKerb : z_V yX5_mayBeKerb cX5_mayBeKerb 4 (some .boolean) 3 := ⟨z_mem 573 (by decide +kernel) rfl, z_mem 47 (by decide +kernel) rfl, ⟨by decide +kernel, by decide +kernel⟩, by decide +kernel, z_mem 572 (by decide +kernel) rfl, z_mem 16 (by decide +kernel) rfl⟩
theorem zv_X0_makeKerb : z_V yX0_makeKerb cX0_makeKerb 2 none 1 := ⟨z_mem 577 (by decide +kernel) rfl, z_mem 49 (by decide +kernel) rfl, ⟨by decide +kernel, by decide +kernel⟩, by decide +kernel, z_mem 575 (by decide +kernel) rfl, z_mem 576 (by decide +kernel) rfl⟩
theorem zv_X5_ring : z_V yX5_ring cX5_ring 3 (some .int) 2 := ⟨z_mem 582 (by decide +kernel) rfl, z_mem 47 (by decide +kernel) rfl, ⟨by decide +kernel, by decide +kernel⟩, by decide +kernel, z_mem 580 (by decide +kernel) rfl, z_mem 581 (by decide +kernel) rfl⟩
theorem zv_X5_forget : z_V yX5_forget cX5_forget 2 (some .int) 0 := ⟨z_mem 586 (by decide +kernel) rfl, z_mem 47 (by decide +kernel) rfl, ⟨by decide +kernel, by decide +kernel⟩, by decide +kernel, z_mem 584 (by decide +kernel) rfl, z_mem 585 (by decide +kernel) rfl⟩
theorem zv_X5_rains : z_V yX5_rains cX5_rains 3 (some .int) 0 := ⟨z_mem 590 (by decide +kernel) rfl, z_mem 47 (by decide +kernel) rfl, ⟨by decide +kernel, by decide +kernel⟩, by decide +kernel, z_mem 588 (by decide +kernel) rfl, z_mem 589 (by decide +kernel) rfl⟩
theorem zv_X5_ringsHold : z_V yX5_ringsHold cX5_ringsHold 3 (some .boolean) 0 := ⟨z_mem 595 (by decide +kernel) rfl, z_mem 47 (by decide +kernel) rfl, ⟨by decide +kernel, by decide +kernel⟩, by decide +kernel, z_mem 594 (by decide +kernel) rfl, z_mem 17 (by decide +kernel) rfl⟩
theorem zv_X5_sky : z_V yX5_sky cX5_sky 3 (some .int) 2 := ⟨z_mem 599 (by decide +kernel) rfl, z_mem 47 (by decide +kernel) rfl, ⟨by decide +kernel, by decide +kernel⟩, by decide +kernel, z_mem 597 (by decide +kernel) rfl, z_mem 598 (by decide +kernel) rfl⟩
theorem zv_X4_wetCells : z_V yX4_wetCells cX4_wetCells 4 (some .int) 1 := ⟨z_mem 603 (by decide +kernel) rfl, z_mem 50 (by decide +kernel) rfl, ⟨by decide +kernel, by decide +kernel⟩, by decide +kernel, z_mem 601 (by decide +kernel) rfl, z_mem 602 (by decide +kernel) rfl⟩
theorem zs_X5_lowestTerms : z_S yX5_lowestTerms cX5_lowestTerms 5 (some .int) 3 := ⟨z_mem 606 (by decide +kernel) rfl, z_mem 47 (by decide +kernel) rfl, ⟨by decide +kernel, by decide +kernel⟩, by decide +kernel, z_mem 605 (by decide +kernel) rfl⟩
theorem zs_X5_commonDivisor : z_S yX5_commonDivisor cX5_commonDivisor 4 (some .int) 2 := ⟨z_mem 609 (by decide +kernel) rfl, z_mem 47 (by decide +kernel) rfl, ⟨by decide +kernel, by decide +kernel⟩, by decide +kernel, z_mem 608 (by decide +kernel) rfl⟩
theorem zv_X5_sun : z_V yX5_sun cX5_sun 9 (some .int) 4 := ⟨z_mem 613 (by decide +kernel) rfl, z_mem 47 (by decide +kernel) rfl, ⟨by decide +kernel, by decide +kernel⟩, by decide +kernel, z_mem 611 (by decide +kernel) rfl, z_mem 612 (by decide +kernel) rfl⟩
theorem zv_X5_wetBehindHours : z_V yX5_wetBehindHours cX5_wetBehindHours 5 (some .int) 2 := ⟨z_mem 617 (by decide +kernel) rfl, z_mem 47 (by decide +kernel) rfl, ⟨by decide +kernel, by decide +kernel⟩, by decide +kernel, z_mem 616 (by decide +kernel) rfl, z_mem 18 (by decide +kernel) rfl⟩
theorem zs_J6_bitCount_0f7a4 : z_S yJ6_bitCount_0f7a4 cJ6_bitCount_0f7a4 1 (some .int) 1 := ⟨z_mem 620 (by decide +kernel) rfl, z_mem 61 (by decide +kernel) rfl, ⟨by decide +kernel, by decide +kernel⟩, by decide +kernel, z_mem 619 (by decide +kernel) rfl⟩
theorem zs_X5_power : z_S yX5_power cX5_power 4 (some .int) 2 := ⟨z_mem 626 (by decide +kernel) rfl, z_mem 47 (by decide +kernel) rfl, ⟨by decide +kernel, by decide +kernel⟩, by decide +kernel, z_mem 625 (by decide +kernel) rfl⟩
theorem zv_X5_year : z_V yX5_year cX5_year 6 (some .int) 3 := ⟨z_mem 630 (by decide +kernel) rfl, z_mem 47 (by decide +kernel) rfl, ⟨by decide +kernel, by decide +kernel⟩, by decide +kernel, z_mem 628 (by decide +kernel) rfl, z_mem 629 (by decide +kernel) rfl⟩
theorem zs_X5_drawOf : z_S yX5_drawOf cX5_drawOf 4 (some .int) 2 := ⟨z_mem 633 (by decide +kernel) rfl, z_mem 47 (by decide +kernel) rfl, ⟨by decide +kernel, by decide +kernel⟩, by decide +kernel, z_mem 632 (by decide +kernel) rfl⟩
theorem zv_X5_keep : z_V yX5_keep cX5_keep 1 (some .int) 0 := ⟨z_mem 641 (by decide +kernel) rfl, z_mem 47 (by decide +kernel) rfl, ⟨by decide +kernel, by decide +kernel⟩, by decide +kernel, z_mem 639 (by decide +kernel) rfl, z_mem 640 (by decide +kernel) rfl⟩
theorem zv_X5_back : z_V yX5_back cX5_back 1 (some .int) 0 := ⟨z_mem 645 (by decide +kernel) rfl, z_mem 47 (by decide +kernel) rfl, ⟨by decide +kernel, by decide +kernel⟩, by decide +kernel, z_mem 643 (by decide +kernel) rfl, z_mem 644 (by decide +kernel) rfl⟩
theorem zv_X5_count : z_V yX5_count cX5_count 2 (some .int) 1 := ⟨z_mem 649 (by decide +kernel) rfl, z_mem 47 (by decide +kernel) rfl, ⟨by decide +kernel, by decide +kernel⟩, by decide +kernel, z_mem 647 (by decide +kernel) rfl, z_mem 648 (by decide +kernel) rfl⟩
theorem zv_X6_begins : z_V yX6_begins cX6_begins 2 none 0 := ⟨z_mem 659 (by decide +kernel) rfl, z_mem 59 (by decide +kernel) rfl, ⟨by decide +kernel, by decide +kernel⟩, by decide +kernel, z_mem 658 (by decide +kernel) rfl, z_mem 19 (by decide +kernel) rfl⟩
theorem zs_X6_in : z_S yX6_in cX6_in 3 (some .boolean) 3 := ⟨z_mem 662 (by decide +kernel) rfl, z_mem 59 (by decide +kernel) rfl, ⟨by decide +kernel, by decide +kernel⟩, by decide +kernel, z_mem 661 (by decide +kernel) rfl⟩
theorem zv_X6_lays : z_V yX6_lays cX6_lays 2 none 0 := ⟨z_mem 666 (by decide +kernel) rfl, z_mem 59 (by decide +kernel) rfl, ⟨by decide +kernel, by decide +kernel⟩, by decide +kernel, z_mem 665 (by decide +kernel) rfl, z_mem 20 (by decide +kernel) rfl⟩
theorem zv_X6_flows : z_V yX6_flows cX6_flows 4 none 0 := ⟨z_mem 670 (by decide +kernel) rfl, z_mem 59 (by decide +kernel) rfl, ⟨by decide +kernel, by decide +kernel⟩, by decide +kernel, z_mem 669 (by decide +kernel) rfl, z_mem 21 (by decide +kernel) rfl⟩
theorem zv_X6_cells : z_V yX6_cells cX6_cells 1 (some .int) 0 := ⟨z_mem 674 (by decide +kernel) rfl, z_mem 59 (by decide +kernel) rfl, ⟨by decide +kernel, by decide +kernel⟩, by decide +kernel, z_mem 673 (by decide +kernel) rfl, z_mem 22 (by decide +kernel) rfl⟩
theorem zv_X6_sends : z_V yX6_sends cX6_sends 7 (some .boolean) 1 := ⟨z_mem 678 (by decide +kernel) rfl, z_mem 59 (by decide +kernel) rfl, ⟨by decide +kernel, by decide +kernel⟩, by decide +kernel, z_mem 677 (by decide +kernel) rfl, z_mem 23 (by decide +kernel) rfl⟩
theorem zv_X6_beside : z_V yX6_beside cX6_beside 6 (some .int) 2 := ⟨z_mem 682 (by decide +kernel) rfl, z_mem 59 (by decide +kernel) rfl, ⟨by decide +kernel, by decide +kernel⟩, by decide +kernel, z_mem 681 (by decide +kernel) rfl, z_mem 24 (by decide +kernel) rfl⟩
theorem zv_X6_isCell : z_V yX6_isCell cX6_isCell 2 (some .boolean) 1 := ⟨z_mem 686 (by decide +kernel) rfl, z_mem 59 (by decide +kernel) rfl, ⟨by decide +kernel, by decide +kernel⟩, by decide +kernel, z_mem 685 (by decide +kernel) rfl, z_mem 25 (by decide +kernel) rfl⟩
theorem zv_X6_level : z_V yX6_level cX6_level 2 (some .int) 1 := ⟨z_mem 690 (by decide +kernel) rfl, z_mem 59 (by decide +kernel) rfl, ⟨by decide +kernel, by decide +kernel⟩, by decide +kernel, z_mem 689 (by decide +kernel) rfl, z_mem 26 (by decide +kernel) rfl⟩
theorem zv_X6_drops : z_V yX6_drops cX6_drops 3 none 2 := ⟨z_mem 694 (by decide +kernel) rfl, z_mem 59 (by decide +kernel) rfl, ⟨by decide +kernel, by decide +kernel⟩, by decide +kernel, z_mem 693 (by decide +kernel) rfl, z_mem 27 (by decide +kernel) rfl⟩
theorem zv_X6_write : z_V yX6_write cX6_write 2 (some .int) 1 := ⟨z_mem 751 (by decide +kernel) rfl, z_mem 59 (by decide +kernel) rfl, ⟨by decide +kernel, by decide +kernel⟩, by decide +kernel, z_mem 749 (by decide +kernel) rfl, z_mem 750 (by decide +kernel) rfl⟩
theorem zv_X6_wipe : z_V yX6_wipe cX6_wipe 2 (some .int) 0 := ⟨z_mem 755 (by decide +kernel) rfl, z_mem 59 (by decide +kernel) rfl, ⟨by decide +kernel, by decide +kernel⟩, by decide +kernel, z_mem 753 (by decide +kernel) rfl, z_mem 754 (by decide +kernel) rfl⟩
theorem zv_X6_fault : z_V yX6_fault cX6_fault 1 (some .int) 0 := ⟨z_mem 759 (by decide +kernel) rfl, z_mem 59 (by decide +kernel) rfl, ⟨by decide +kernel, by decide +kernel⟩, by decide +kernel, z_mem 757 (by decide +kernel) rfl, z_mem 758 (by decide +kernel) rfl⟩
theorem zv_X6_readsAll : z_V yX6_readsAll cX6_readsAll 2 (some .int) 0 := ⟨z_mem 763 (by decide +kernel) rfl, z_mem 59 (by decide +kernel) rfl, ⟨by decide +kernel, by decide +kernel⟩, by decide +kernel, z_mem 762 (by decide +kernel) rfl, z_mem 28 (by decide +kernel) rfl⟩
theorem zv_X6_readsItem : z_V yX6_readsItem cX6_readsItem 4 (some .boolean) 1 := ⟨z_mem 767 (by decide +kernel) rfl, z_mem 59 (by decide +kernel) rfl, ⟨by decide +kernel, by decide +kernel⟩, by decide +kernel, z_mem 766 (by decide +kernel) rfl, z_mem 29 (by decide +kernel) rfl⟩
theorem zv_X6_number : z_V yX6_number cX6_number 6 (some .int) 3 := ⟨z_mem 771 (by decide +kernel) rfl, z_mem 59 (by decide +kernel) rfl, ⟨by decide +kernel, by decide +kernel⟩, by decide +kernel, z_mem 770 (by decide +kernel) rfl, z_mem 30 (by decide +kernel) rfl⟩
theorem zv_X6_letterAt : z_V yX6_letterAt cX6_letterAt 2 (some .int) 1 := ⟨z_mem 775 (by decide +kernel) rfl, z_mem 59 (by decide +kernel) rfl, ⟨by decide +kernel, by decide +kernel⟩, by decide +kernel, z_mem 774 (by decide +kernel) rfl, z_mem 31 (by decide +kernel) rfl⟩
theorem zs_X6_isFigure : z_S yX6_isFigure cX6_isFigure 1 (some .boolean) 1 := ⟨z_mem 778 (by decide +kernel) rfl, z_mem 59 (by decide +kernel) rfl, ⟨by decide +kernel, by decide +kernel⟩, by decide +kernel, z_mem 777 (by decide +kernel) rfl⟩
theorem zv_X6_lay : z_V yX6_lay cX6_lay 1 (some .int) 0 := ⟨z_mem 782 (by decide +kernel) rfl, z_mem 59 (by decide +kernel) rfl, ⟨by decide +kernel, by decide +kernel⟩, by decide +kernel, z_mem 780 (by decide +kernel) rfl, z_mem 781 (by decide +kernel) rfl⟩
theorem zv_X6_cell : z_V yX6_cell cX6_cell 5 (some .int) 2 := ⟨z_mem 786 (by decide +kernel) rfl, z_mem 59 (by decide +kernel) rfl, ⟨by decide +kernel, by decide +kernel⟩, by decide +kernel, z_mem 784 (by decide +kernel) rfl, z_mem 785 (by decide +kernel) rfl⟩
theorem zv_X6_laysStates : z_V yX6_laysStates cX6_laysStates 5 none 0 := ⟨z_mem 790 (by decide +kernel) rfl, z_mem 59 (by decide +kernel) rfl, ⟨by decide +kernel, by decide +kernel⟩, by decide +kernel, z_mem 789 (by decide +kernel) rfl, z_mem 32 (by decide +kernel) rfl⟩
theorem zv_X6_sizeOf : z_V yX6_sizeOf cX6_sizeOf 4 (some .int) 1 := ⟨z_mem 794 (by decide +kernel) rfl, z_mem 59 (by decide +kernel) rfl, ⟨by decide +kernel, by decide +kernel⟩, by decide +kernel, z_mem 793 (by decide +kernel) rfl, z_mem 33 (by decide +kernel) rfl⟩
theorem zv_X6_rain : z_V yX6_rain cX6_rain 2 (some .int) 1 := ⟨z_mem 798 (by decide +kernel) rfl, z_mem 59 (by decide +kernel) rfl, ⟨by decide +kernel, by decide +kernel⟩, by decide +kernel, z_mem 796 (by decide +kernel) rfl, z_mem 797 (by decide +kernel) rfl⟩
theorem zv_X6_keeps : z_V yX6_keeps cX6_keeps 2 none 0 := ⟨z_mem 802 (by decide +kernel) rfl, z_mem 59 (by decide +kernel) rfl, ⟨by decide +kernel, by decide +kernel⟩, by decide +kernel, z_mem 801 (by decide +kernel) rfl, z_mem 34 (by decide +kernel) rfl⟩
theorem zv_X6_pours : z_V yX6_pours cX6_pours 3 none 1 := ⟨z_mem 806 (by decide +kernel) rfl, z_mem 59 (by decide +kernel) rfl, ⟨by decide +kernel, by decide +kernel⟩, by decide +kernel, z_mem 805 (by decide +kernel) rfl, z_mem 35 (by decide +kernel) rfl⟩
theorem zv_X6_isOpen : z_V yX6_isOpen cX6_isOpen 2 (some .boolean) 1 := ⟨z_mem 810 (by decide +kernel) rfl, z_mem 59 (by decide +kernel) rfl, ⟨by decide +kernel, by decide +kernel⟩, by decide +kernel, z_mem 809 (by decide +kernel) rfl, z_mem 36 (by decide +kernel) rfl⟩
theorem zv_X6_all : z_V yX6_all cX6_all 3 (some .int) 0 := ⟨z_mem 814 (by decide +kernel) rfl, z_mem 59 (by decide +kernel) rfl, ⟨by decide +kernel, by decide +kernel⟩, by decide +kernel, z_mem 813 (by decide +kernel) rfl, z_mem 37 (by decide +kernel) rfl⟩
theorem zv_X6_shine : z_V yX6_shine cX6_shine 3 (some .int) 1 := ⟨z_mem 818 (by decide +kernel) rfl, z_mem 59 (by decide +kernel) rfl, ⟨by decide +kernel, by decide +kernel⟩, by decide +kernel, z_mem 816 (by decide +kernel) rfl, z_mem 817 (by decide +kernel) rfl⟩
theorem zv_X6_shines : z_V yX6_shines cX6_shines 3 none 0 := ⟨z_mem 822 (by decide +kernel) rfl, z_mem 59 (by decide +kernel) rfl, ⟨by decide +kernel, by decide +kernel⟩, by decide +kernel, z_mem 821 (by decide +kernel) rfl, z_mem 38 (by decide +kernel) rfl⟩
theorem zv_X6_boot : z_V yX6_boot cX6_boot 4 (some .int) 1 := ⟨z_mem 826 (by decide +kernel) rfl, z_mem 59 (by decide +kernel) rfl, ⟨by decide +kernel, by decide +kernel⟩, by decide +kernel, z_mem 824 (by decide +kernel) rfl, z_mem 825 (by decide +kernel) rfl⟩
theorem zv_X6_stone : z_V yX6_stone cX6_stone 3 (some .int) 2 := ⟨z_mem 830 (by decide +kernel) rfl, z_mem 59 (by decide +kernel) rfl, ⟨by decide +kernel, by decide +kernel⟩, by decide +kernel, z_mem 828 (by decide +kernel) rfl, z_mem 829 (by decide +kernel) rfl⟩
theorem zv_X6_undo : z_V yX6_undo cX6_undo 2 (some .int) 0 := ⟨z_mem 834 (by decide +kernel) rfl, z_mem 59 (by decide +kernel) rfl, ⟨by decide +kernel, by decide +kernel⟩, by decide +kernel, z_mem 832 (by decide +kernel) rfl, z_mem 833 (by decide +kernel) rfl⟩
theorem zv_X6_behind : z_V yX6_behind cX6_behind 5 (some .int) 3 := ⟨z_mem 838 (by decide +kernel) rfl, z_mem 59 (by decide +kernel) rfl, ⟨by decide +kernel, by decide +kernel⟩, by decide +kernel, z_mem 836 (by decide +kernel) rfl, z_mem 837 (by decide +kernel) rfl⟩
theorem zv_X6_holds : z_V yX6_holds cX6_holds 2 none 0 := ⟨z_mem 842 (by decide +kernel) rfl, z_mem 59 (by decide +kernel) rfl, ⟨by decide +kernel, by decide +kernel⟩, by decide +kernel, z_mem 841 (by decide +kernel) rfl, z_mem 39 (by decide +kernel) rfl⟩
theorem zv_X6_lets : z_V yX6_lets cX6_lets 2 none 0 := ⟨z_mem 846 (by decide +kernel) rfl, z_mem 59 (by decide +kernel) rfl, ⟨by decide +kernel, by decide +kernel⟩, by decide +kernel, z_mem 845 (by decide +kernel) rfl, z_mem 40 (by decide +kernel) rfl⟩
theorem zv_X6_dry : z_V yX6_dry cX6_dry 6 (some .int) 1 := ⟨z_mem 850 (by decide +kernel) rfl, z_mem 59 (by decide +kernel) rfl, ⟨by decide +kernel, by decide +kernel⟩, by decide +kernel, z_mem 848 (by decide +kernel) rfl, z_mem 849 (by decide +kernel) rfl⟩
theorem zv_X6_lowest : z_V yX6_lowest cX6_lowest 3 (some .int) 0 := ⟨z_mem 854 (by decide +kernel) rfl, z_mem 59 (by decide +kernel) rfl, ⟨by decide +kernel, by decide +kernel⟩, by decide +kernel, z_mem 853 (by decide +kernel) rfl, z_mem 41 (by decide +kernel) rfl⟩
theorem zv_X6_join : z_V yX6_join cX6_join 5 (some .int) 2 := ⟨z_mem 858 (by decide +kernel) rfl, z_mem 59 (by decide +kernel) rfl, ⟨by decide +kernel, by decide +kernel⟩, by decide +kernel, z_mem 856 (by decide +kernel) rfl, z_mem 857 (by decide +kernel) rfl⟩
theorem zv_X6_isOne : z_V yX6_isOne cX6_isOne 3 (some .boolean) 2 := ⟨z_mem 862 (by decide +kernel) rfl, z_mem 59 (by decide +kernel) rfl, ⟨by decide +kernel, by decide +kernel⟩, by decide +kernel, z_mem 861 (by decide +kernel) rfl, z_mem 42 (by decide +kernel) rfl⟩
theorem zv_X6_part : z_V yX6_part cX6_part 5 (some .int) 2 := ⟨z_mem 866 (by decide +kernel) rfl, z_mem 59 (by decide +kernel) rfl, ⟨by decide +kernel, by decide +kernel⟩, by decide +kernel, z_mem 864 (by decide +kernel) rfl, z_mem 865 (by decide +kernel) rfl⟩
theorem zv_X6_way : z_V yX6_way cX6_way 8 (some .int) 2 := ⟨z_mem 870 (by decide +kernel) rfl, z_mem 59 (by decide +kernel) rfl, ⟨by decide +kernel, by decide +kernel⟩, by decide +kernel, z_mem 868 (by decide +kernel) rfl, z_mem 869 (by decide +kernel) rfl⟩
theorem zv_X6_kerb : z_V yX6_kerb cX6_kerb 7 (some .int) 3 := ⟨z_mem 874 (by decide +kernel) rfl, z_mem 59 (by decide +kernel) rfl, ⟨by decide +kernel, by decide +kernel⟩, by decide +kernel, z_mem 872 (by decide +kernel) rfl, z_mem 873 (by decide +kernel) rfl⟩
theorem zv_X6_areApart : z_V yX6_areApart cX6_areApart 5 (some .boolean) 3 := ⟨z_mem 878 (by decide +kernel) rfl, z_mem 59 (by decide +kernel) rfl, ⟨by decide +kernel, by decide +kernel⟩, by decide +kernel, z_mem 877 (by decide +kernel) rfl, z_mem 43 (by decide +kernel) rfl⟩
theorem zv_X6_ring : z_V yX6_ring cX6_ring 3 (some .int) 2 := ⟨z_mem 882 (by decide +kernel) rfl, z_mem 59 (by decide +kernel) rfl, ⟨by decide +kernel, by decide +kernel⟩, by decide +kernel, z_mem 880 (by decide +kernel) rfl, z_mem 881 (by decide +kernel) rfl⟩
theorem zv_X6_forget : z_V yX6_forget cX6_forget 2 (some .int) 0 := ⟨z_mem 886 (by decide +kernel) rfl, z_mem 59 (by decide +kernel) rfl, ⟨by decide +kernel, by decide +kernel⟩, by decide +kernel, z_mem 884 (by decide +kernel) rfl, z_mem 885 (by decide +kernel) rfl⟩
theorem zv_X6_rains : z_V yX6_rains cX6_rains 5 (some .int) 0 := ⟨z_mem 890 (by decide +kernel) rfl, z_mem 59 (by decide +kernel) rfl, ⟨by decide +kernel, by decide +kernel⟩, by decide +kernel, z_mem 888 (by decide +kernel) rfl, z_mem 889 (by decide +kernel) rfl⟩
theorem zv_X6_sky : z_V yX6_sky cX6_sky 6 (some .int) 2 := ⟨z_mem 894 (by decide +kernel) rfl, z_mem 59 (by decide +kernel) rfl, ⟨by decide +kernel, by decide +kernel⟩, by decide +kernel, z_mem 892 (by decide +kernel) rfl, z_mem 893 (by decide +kernel) rfl⟩
theorem zv_X6_wet : z_V yX6_wet cX6_wet 3 (some .int) 0 := ⟨z_mem 898 (by decide +kernel) rfl, z_mem 59 (by decide +kernel) rfl, ⟨by decide +kernel, by decide +kernel⟩, by decide +kernel, z_mem 897 (by decide +kernel) rfl, z_mem 44 (by decide +kernel) rfl⟩
theorem zs_X6_common : z_S yX6_common cX6_common 5 (some .int) 2 := ⟨z_mem 901 (by decide +kernel) rfl, z_mem 59 (by decide +kernel) rfl, ⟨by decide +kernel, by decide +kernel⟩, by decide +kernel, z_mem 900 (by decide +kernel) rfl⟩
theorem zv_X6_sun : z_V yX6_sun cX6_sun 11 (some .int) 4 := ⟨z_mem 905 (by decide +kernel) rfl, z_mem 59 (by decide +kernel) rfl, ⟨by decide +kernel, by decide +kernel⟩, by decide +kernel, z_mem 903 (by decide +kernel) rfl, z_mem 904 (by decide +kernel) rfl⟩
theorem zv_X6_year : z_V yX6_year cX6_year 9 (some .int) 3 := ⟨z_mem 909 (by decide +kernel) rfl, z_mem 59 (by decide +kernel) rfl, ⟨by decide +kernel, by decide +kernel⟩, by decide +kernel, z_mem 907 (by decide +kernel) rfl, z_mem 908 (by decide +kernel) rfl⟩
theorem zv_X6_manyStates : z_V yX6_manyStates cX6_manyStates 3 (some .int) 0 := ⟨z_mem 916 (by decide +kernel) rfl, z_mem 59 (by decide +kernel) rfl, ⟨by decide +kernel, by decide +kernel⟩, by decide +kernel, z_mem 915 (by decide +kernel) rfl, z_mem 45 (by decide +kernel) rfl⟩
theorem zv_X6_keep : z_V yX6_keep cX6_keep 2 (some .int) 0 := ⟨z_mem 920 (by decide +kernel) rfl, z_mem 59 (by decide +kernel) rfl, ⟨by decide +kernel, by decide +kernel⟩, by decide +kernel, z_mem 918 (by decide +kernel) rfl, z_mem 919 (by decide +kernel) rfl⟩
theorem zv_X6_back : z_V yX6_back cX6_back 2 (some .int) 0 := ⟨z_mem 924 (by decide +kernel) rfl, z_mem 59 (by decide +kernel) rfl, ⟨by decide +kernel, by decide +kernel⟩, by decide +kernel, z_mem 922 (by decide +kernel) rfl, z_mem 923 (by decide +kernel) rfl⟩
theorem zv_X6_count : z_V yX6_count cX6_count 2 (some .int) 1 := ⟨z_mem 928 (by decide +kernel) rfl, z_mem 59 (by decide +kernel) rfl, ⟨by decide +kernel, by decide +kernel⟩, by decide +kernel, z_mem 926 (by decide +kernel) rfl, z_mem 927 (by decide +kernel) rfl⟩
theorem zc_X4_78 : Cond.constant RX4 78 (Int32.ofInt 1000000) ∈ z_W := z_mem 347 (by decide +kernel) rfl
theorem zc_X5_199 : Cond.constant RX5 199 (Int32.ofInt 2147483647) ∈ z_W := z_mem 591 (by decide +kernel) rfl
theorem zc_J6_265 : Cond.constant RJ6 265 (Int32.ofInt 1431655765) ∈ z_W := z_mem 621 (by decide +kernel) rfl
theorem zc_J6_266 : Cond.constant RJ6 266 (Int32.ofInt 858993459) ∈ z_W := z_mem 622 (by decide +kernel) rfl
theorem zc_J6_267 : Cond.constant RJ6 267 (Int32.ofInt 252645135) ∈ z_W := z_mem 623 (by decide +kernel) rfl
theorem zc_X4_86 : Cond.constantLong RX4 86 (-1 : Int64) ∈ z_W := z_mem 357 (by decide +kernel) rfl
theorem zc_X5_232 : Cond.constantLong RX5 232 (7919 : Int64) ∈ z_W := z_mem 634 (by decide +kernel) rfl
theorem zc_X5_234 : Cond.constantLong RX5 234 (6151 : Int64) ∈ z_W := z_mem 635 (by decide +kernel) rfl
theorem zc_X5_236 : Cond.constantLong RX5 236 (65521 : Int64) ∈ z_W := z_mem 636 (by decide +kernel) rfl
theorem zc_X5_238 : Cond.constantLong RX5 238 (8 : Int64) ∈ z_W := z_mem 637 (by decide +kernel) rfl
theorem zc_X6_159 : Cond.constantLong RX6 159 (7919 : Int64) ∈ z_W := z_mem 910 (by decide +kernel) rfl
theorem zc_X6_161 : Cond.constantLong RX6 161 (6151 : Int64) ∈ z_W := z_mem 911 (by decide +kernel) rfl
theorem zc_X6_163 : Cond.constantLong RX6 163 (65521 : Int64) ∈ z_W := z_mem 912 (by decide +kernel) rfl
theorem zl_X2_58 : Cond.methodLink RX2 58 Lib.Math.max.name ∈ z_W := z_mem 458 (by decide +kernel) rfl
theorem zl_X4_47 : Cond.methodLink RX4 47 Lib.Math.min.name ∈ z_W := z_mem 478 (by decide +kernel) rfl
theorem z_wmin1 : Cond.static Lib.Math.min.name ∈ z_W := z_mem 479 (by decide +kernel) rfl
theorem z_wmin2 : Cond.initialized "java/lang/Math" ∈ z_W := z_mem 60 (by decide +kernel) rfl
theorem z_wmin3 : Cond.code Lib.Math.min.name Lib.Math.min.code 2 (some .int) ∈ z_W := z_mem 480 (by decide +kernel) rfl
theorem z_wmax1 : Cond.static Lib.Math.max.name ∈ z_W := z_mem 459 (by decide +kernel) rfl
theorem z_wmax2 : Cond.initialized "java/lang/Math" ∈ z_W := z_mem 60 (by decide +kernel) rfl
theorem z_wmax3 : Cond.code Lib.Math.max.name Lib.Math.max.code 2 (some .int) ∈ z_W := z_mem 460 (by decide +kernel) rfl
theorem zl_X0_53 : Cond.methodLink RX0 53 arraycopyName ∈ z_W := z_mem 331 (by decide +kernel) rfl
theorem zl_X4_32 : Cond.methodLink RX4 32 arraycopyName ∈ z_W := z_mem 338 (by decide +kernel) rfl
theorem zl_X1_33 : Cond.methodLink RX1 33 arraycopyName ∈ z_W := z_mem 473 (by decide +kernel) rfl
theorem z_ac1 : Cond.native arraycopyName ∈ z_W := z_mem 333 (by decide +kernel) rfl
theorem z_ac2 : Cond.static arraycopyName ∈ z_W := z_mem 332 (by decide +kernel) rfl
theorem z_ac3 : Cond.initialized "java/lang/System" ∈ z_W := z_mem 58 (by decide +kernel) rfl
def w_X0 (G : z_G) (o a_kind a_beside a_besideBits : Nat) (v_rows : Int) (v_columns : Int) (v_cells : Int) (v_kind : Int → Int) (v_beside : Int → Int) (v_besideBits : Int → Int64) : va_W := [(o, z_o 0 [z_i v_rows, z_i v_columns, z_i v_cells, .ref a_kind, .ref a_beside, .ref a_besideBits]), (a_kind, z_a G.2.1 36 v_kind), (a_beside, z_a G.2.1 144 v_beside), (a_besideBits, z_l G.2.2.1 36 v_besideBits)]
def w_X1 (G : z_G) (o a_heights a_drops a_hours : Nat) (v_heights : Int → Int) (v_drops : Int → Int) (v_hours : Int → Int) (v_many : Int) : va_W := [(o, z_o 1 [.ref a_heights, .ref a_drops, .ref a_hours, z_i v_many]), (a_heights, z_a G.2.1 288 v_heights), (a_drops, z_a G.2.1 288 v_drops), (a_hours, z_a G.2.1 8 v_hours)]
def w_X2 (G : z_G) (o a_state a_waiting : Nat) (v_state : Int → Int) (v_waiting : Int → Int) (v_waits : Int) (v_cells : Int) (v_many : Int) : va_W := [(o, z_o 2 [.ref a_state, .ref a_waiting, z_i v_waits, z_i v_cells, z_i v_many]), (a_state, z_a G.2.1 36 v_state), (a_waiting, z_a G.2.1 36 v_waiting)]
def w_X3 (G : z_G) (o a_letters : Nat) (v_letters : Int → Int) (v_length : Int) (v_at : Int) : va_W := [(o, z_o 3 [.ref a_letters, z_i v_length, z_i v_at]), (a_letters, z_a G.2.2.2.1 200 v_letters)]
def w_X4 (G : z_G) (o a_height a_drops : Nat) (v_height : Int → Int) (v_drops : Int → Int) (v_hours : Int) (v_restless : Int64) : va_W := [(o, z_o 4 [.ref a_height, .ref a_drops, z_i v_hours, .long v_restless]), (a_height, z_a G.2.1 36 v_height), (a_drops, z_a G.2.1 36 v_drops)]
def w_X5 (G : z_G) (o a_text a_ground a_now a_otherGround a_later a_states a_undone a_kept a_ringCell a_ringDrops : Nat) (v_ringCell : Int → Int) (v_ringDrops : Int → Int) (v_rings : Int) : va_W := [(o, z_o 5 [.ref a_text, .ref a_ground, .ref a_now, .ref a_otherGround, .ref a_later, .ref a_states, .ref a_undone, .ref a_kept, .ref a_ringCell, .ref a_ringDrops, z_i v_rings]), (a_ringCell, z_a G.2.1 6 v_ringCell), (a_ringDrops, z_a G.2.1 6 v_ringDrops)]
def w_X6 (G : z_G) (o a_text a_told a_draft a_begun a_s a_past a_images a_rings a_states a_held a_here a_there : Nat) (v_text : Int → Int) (v_typed : Int) (v_told : Int → Int) (v_draft : Int → Int) (v_begun : Int → Int) (v_s : Int → Int) (v_past : Int → Int) (v_known : Int) (v_images : Int → Int) (v_kept : Int) (v_rings : Int → Int) (v_rung : Int) (v_at : Int) (v_states : Int → Int) (v_held : Int → Int) (v_here : Int → Int) (v_there : Int → Int) : va_W := [(o, z_o 6 [.ref a_text, z_i v_typed, .ref a_told, .ref a_draft, .ref a_begun, .ref a_s, .ref a_past, z_i v_known, .ref a_images, z_i v_kept, .ref a_rings, z_i v_rung, z_i v_at, .ref a_states, .ref a_held, .ref a_here, .ref a_there]), (a_text, z_a G.2.1 200 v_text), (a_told, z_a G.2.1 39 v_told), (a_draft, z_a G.2.1 39 v_draft), (a_begun, z_a G.2.1 73 v_begun), (a_s, z_a G.2.1 73 v_s), (a_past, z_a G.2.1 584 v_past), (a_images, z_a G.2.1 146 v_images), (a_rings, z_a G.2.1 6 v_rings), (a_states, z_a G.2.1 36 v_states), (a_held, z_a G.2.1 73 v_held), (a_here, z_a G.2.2.2.2 36 v_here), (a_there, z_a G.2.2.2.2 36 v_there)]
def w_I (G : z_G) (o n : Nat) (f : Int → Int) : va_W := [(o, z_a G.2.1 n f)]
def w_J (G : z_G) (o n : Nat) (f : Int → Int64) : va_W := [(o, z_l G.2.2.1 n f)]
