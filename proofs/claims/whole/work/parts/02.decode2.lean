theorem dX4_whereTo_128 : decode cX4_whereTo 128 = .ok (.goto 4, 3) := by decide +kernel
theorem dX4_whereTo_131 : decode cX4_whereTo 131 = .ok (.iconst 0, 1) := by decide +kernel
theorem dX4_whereTo_132 : decode cX4_whereTo 132 = .ok (.istore 10, 2) := by decide +kernel
theorem dX4_whereTo_134 : decode cX4_whereTo 134 = .ok (.iload 10, 2) := by decide +kernel
theorem dX4_whereTo_136 : decode cX4_whereTo 136 = .ok (.ifCond .eq 18, 3) := by decide +kernel
theorem dX4_whereTo_139 : decode cX4_whereTo 139 = .ok (.iload 9, 2) := by decide +kernel
theorem dX4_whereTo_141 : decode cX4_whereTo 141 = .ok (.iload 6, 2) := by decide +kernel
theorem dX4_whereTo_143 : decode cX4_whereTo 143 = .ok (.if_icmp .ge 11, 3) := by decide +kernel
theorem dX4_whereTo_146 : decode cX4_whereTo 146 = .ok (.iload 8, 2) := by decide +kernel
theorem dX4_whereTo_148 : decode cX4_whereTo 148 = .ok (.istore 5, 2) := by decide +kernel
theorem dX4_whereTo_150 : decode cX4_whereTo 150 = .ok (.iload 9, 2) := by decide +kernel
theorem dX4_whereTo_152 : decode cX4_whereTo 152 = .ok (.istore 6, 2) := by decide +kernel
theorem dX4_whereTo_154 : decode cX4_whereTo 154 = .ok (.iinc 7 1, 3) := by decide +kernel
theorem dX4_whereTo_157 : decode cX4_whereTo 157 = .ok (.goto (-96), 3) := by decide +kernel
theorem dX4_whereTo_160 : decode cX4_whereTo 160 = .ok (.iload 5, 2) := by decide +kernel
theorem dX4_whereTo_162 : decode cX4_whereTo 162 = .ok (.ireturn, 1) := by decide +kernel
theorem dX5_init_0 : decode cX5_init 0 = .ok (.aload_n 0, 1) := by decide +kernel
theorem dX5_init_1 : decode cX5_init 1 = .ok (.invokespecial 3, 3) := by decide +kernel
theorem dX5_init_4 : decode cX5_init 4 = .ok (.aload_n 0, 1) := by decide +kernel
theorem dX5_init_5 : decode cX5_init 5 = .ok (.new 9, 3) := by decide +kernel
theorem dX5_init_8 : decode cX5_init 8 = .ok (.dup, 1) := by decide +kernel
theorem dX5_init_9 : decode cX5_init 9 = .ok (.invokespecial 11, 3) := by decide +kernel
theorem dX5_init_12 : decode cX5_init 12 = .ok (.putfield 12, 3) := by decide +kernel
theorem dX5_init_15 : decode cX5_init 15 = .ok (.aload_n 0, 1) := by decide +kernel
theorem dX5_init_16 : decode cX5_init 16 = .ok (.new 16, 3) := by decide +kernel
theorem dX5_init_19 : decode cX5_init 19 = .ok (.dup, 1) := by decide +kernel
theorem dX5_init_20 : decode cX5_init 20 = .ok (.invokespecial 18, 3) := by decide +kernel
theorem dX5_init_23 : decode cX5_init 23 = .ok (.putfield 19, 3) := by decide +kernel
theorem dX5_init_26 : decode cX5_init 26 = .ok (.aload_n 0, 1) := by decide +kernel
theorem dX5_init_27 : decode cX5_init 27 = .ok (.new 23, 3) := by decide +kernel
theorem dX5_init_30 : decode cX5_init 30 = .ok (.dup, 1) := by decide +kernel
theorem dX5_init_31 : decode cX5_init 31 = .ok (.invokespecial 25, 3) := by decide +kernel
theorem dX5_init_34 : decode cX5_init 34 = .ok (.putfield 26, 3) := by decide +kernel
theorem dX5_init_37 : decode cX5_init 37 = .ok (.aload_n 0, 1) := by decide +kernel
theorem dX5_init_38 : decode cX5_init 38 = .ok (.new 16, 3) := by decide +kernel
theorem dX5_init_41 : decode cX5_init 41 = .ok (.dup, 1) := by decide +kernel
theorem dX5_init_42 : decode cX5_init 42 = .ok (.invokespecial 18, 3) := by decide +kernel
theorem dX5_init_45 : decode cX5_init 45 = .ok (.putfield 30, 3) := by decide +kernel
theorem dX5_init_48 : decode cX5_init 48 = .ok (.aload_n 0, 1) := by decide +kernel
theorem dX5_init_49 : decode cX5_init 49 = .ok (.new 23, 3) := by decide +kernel
theorem dX5_init_52 : decode cX5_init 52 = .ok (.dup, 1) := by decide +kernel
theorem dX5_init_53 : decode cX5_init 53 = .ok (.invokespecial 25, 3) := by decide +kernel
theorem dX5_init_56 : decode cX5_init 56 = .ok (.putfield 33, 3) := by decide +kernel
theorem dX5_init_59 : decode cX5_init 59 = .ok (.aload_n 0, 1) := by decide +kernel
theorem dX5_init_60 : decode cX5_init 60 = .ok (.new 36, 3) := by decide +kernel
theorem dX5_init_63 : decode cX5_init 63 = .ok (.dup, 1) := by decide +kernel
theorem dX5_init_64 : decode cX5_init 64 = .ok (.invokespecial 38, 3) := by decide +kernel
theorem dX5_init_67 : decode cX5_init 67 = .ok (.putfield 39, 3) := by decide +kernel
theorem dX5_init_70 : decode cX5_init 70 = .ok (.aload_n 0, 1) := by decide +kernel
theorem dX5_init_71 : decode cX5_init 71 = .ok (.new 43, 3) := by decide +kernel
theorem dX5_init_74 : decode cX5_init 74 = .ok (.dup, 1) := by decide +kernel
theorem dX5_init_75 : decode cX5_init 75 = .ok (.invokespecial 45, 3) := by decide +kernel
theorem dX5_init_78 : decode cX5_init 78 = .ok (.putfield 46, 3) := by decide +kernel
theorem dX5_init_81 : decode cX5_init 81 = .ok (.aload_n 0, 1) := by decide +kernel
theorem dX5_init_82 : decode cX5_init 82 = .ok (.new 43, 3) := by decide +kernel
theorem dX5_init_85 : decode cX5_init 85 = .ok (.dup, 1) := by decide +kernel
theorem dX5_init_86 : decode cX5_init 86 = .ok (.invokespecial 45, 3) := by decide +kernel
theorem dX5_init_89 : decode cX5_init 89 = .ok (.putfield 50, 3) := by decide +kernel
theorem dX5_init_92 : decode cX5_init 92 = .ok (.aload_n 0, 1) := by decide +kernel
theorem dX5_init_93 : decode cX5_init 93 = .ok (.bipush 6, 2) := by decide +kernel
theorem dX5_init_95 : decode cX5_init 95 = .ok (.newarray .int, 2) := by decide +kernel
theorem dX5_init_97 : decode cX5_init 97 = .ok (.putfield 53, 3) := by decide +kernel
theorem dX5_init_100 : decode cX5_init 100 = .ok (.aload_n 0, 1) := by decide +kernel
theorem dX5_init_101 : decode cX5_init 101 = .ok (.bipush 6, 2) := by decide +kernel
theorem dX5_init_103 : decode cX5_init 103 = .ok (.newarray .int, 2) := by decide +kernel
theorem dX5_init_105 : decode cX5_init 105 = .ok (.putfield 57, 3) := by decide +kernel
theorem dX5_init_108 : decode cX5_init 108 = .ok (.aload_n 0, 1) := by decide +kernel
theorem dX5_init_109 : decode cX5_init 109 = .ok (.iconst 0, 1) := by decide +kernel
theorem dX5_init_110 : decode cX5_init 110 = .ok (.putfield 60, 3) := by decide +kernel
theorem dX5_init_113 : decode cX5_init 113 = .ok (.iconst 0, 1) := by decide +kernel
theorem dX5_init_114 : decode cX5_init 114 = .ok (.istore_n 1, 1) := by decide +kernel
theorem dX5_init_115 : decode cX5_init 115 = .ok (.iload_n 1, 1) := by decide +kernel
theorem dX5_init_116 : decode cX5_init 116 = .ok (.ldc 64, 2) := by decide +kernel
theorem dX5_init_118 : decode cX5_init 118 = .ok (.invokevirtual 66, 3) := by decide +kernel
theorem dX5_init_121 : decode cX5_init 121 = .ok (.if_icmp .ge 22, 3) := by decide +kernel
theorem dX5_init_124 : decode cX5_init 124 = .ok (.aload_n 0, 1) := by decide +kernel
theorem dX5_init_125 : decode cX5_init 125 = .ok (.getfield 12, 3) := by decide +kernel
theorem dX5_init_128 : decode cX5_init 128 = .ok (.ldc 64, 2) := by decide +kernel
theorem dX5_init_130 : decode cX5_init 130 = .ok (.iload_n 1, 1) := by decide +kernel
theorem dX5_init_131 : decode cX5_init 131 = .ok (.invokevirtual 72, 3) := by decide +kernel
theorem dX5_init_134 : decode cX5_init 134 = .ok (.invokevirtual 76, 3) := by decide +kernel
theorem dX5_init_137 : decode cX5_init 137 = .ok (.iinc 1 1, 3) := by decide +kernel
theorem dX5_init_140 : decode cX5_init 140 = .ok (.goto (-25), 3) := by decide +kernel
theorem dX5_init_143 : decode cX5_init 143 = .ok (.aload_n 0, 1) := by decide +kernel
theorem dX5_init_144 : decode cX5_init 144 = .ok (.invokevirtual 80, 3) := by decide +kernel
theorem dX5_init_147 : decode cX5_init 147 = .ok (.pop, 1) := by decide +kernel
theorem dX5_init_148 : decode cX5_init 148 = .ok (.aload_n 0, 1) := by decide +kernel
theorem dX5_init_149 : decode cX5_init 149 = .ok (.getfield 12, 3) := by decide +kernel
theorem dX5_init_152 : decode cX5_init 152 = .ok (.invokevirtual 84, 3) := by decide +kernel
theorem dX5_init_155 : decode cX5_init 155 = .ok (.return_, 1) := by decide +kernel
theorem dX5_write_0 : decode cX5_write 0 = .ok (.iload_n 1, 1) := by decide +kernel
theorem dX5_write_1 : decode cX5_write 1 = .ok (.bipush 32, 2) := by decide +kernel
theorem dX5_write_3 : decode cX5_write 3 = .ok (.if_icmp .lt 9, 3) := by decide +kernel
theorem dX5_write_6 : decode cX5_write 6 = .ok (.iload_n 1, 1) := by decide +kernel
theorem dX5_write_7 : decode cX5_write 7 = .ok (.bipush 126, 2) := by decide +kernel
theorem dX5_write_9 : decode cX5_write 9 = .ok (.if_icmp .le 5, 3) := by decide +kernel
theorem dX5_write_12 : decode cX5_write 12 = .ok (.iconst (-1), 1) := by decide +kernel
theorem dX5_write_13 : decode cX5_write 13 = .ok (.ireturn, 1) := by decide +kernel
theorem dX5_write_14 : decode cX5_write 14 = .ok (.aload_n 0, 1) := by decide +kernel
theorem dX5_write_15 : decode cX5_write 15 = .ok (.getfield 12, 3) := by decide +kernel
theorem dX5_write_18 : decode cX5_write 18 = .ok (.getfield 87, 3) := by decide +kernel
theorem dX5_write_21 : decode cX5_write 21 = .ok (.sipush 200, 3) := by decide +kernel
theorem dX5_write_24 : decode cX5_write 24 = .ok (.if_icmp .lt 6, 3) := by decide +kernel
theorem dX5_write_27 : decode cX5_write 27 = .ok (.bipush (-3), 2) := by decide +kernel
theorem dX5_write_29 : decode cX5_write 29 = .ok (.ireturn, 1) := by decide +kernel
theorem dX5_write_30 : decode cX5_write 30 = .ok (.aload_n 0, 1) := by decide +kernel
theorem dX5_write_31 : decode cX5_write 31 = .ok (.getfield 12, 3) := by decide +kernel
theorem dX5_write_34 : decode cX5_write 34 = .ok (.iload_n 1, 1) := by decide +kernel
theorem dX5_write_35 : decode cX5_write 35 = .ok (.i2c, 1) := by decide +kernel
theorem dX5_write_36 : decode cX5_write 36 = .ok (.invokevirtual 76, 3) := by decide +kernel
theorem dX5_write_39 : decode cX5_write 39 = .ok (.aload_n 0, 1) := by decide +kernel
theorem dX5_write_40 : decode cX5_write 40 = .ok (.getfield 12, 3) := by decide +kernel
theorem dX5_write_43 : decode cX5_write 43 = .ok (.getfield 87, 3) := by decide +kernel
theorem dX5_write_46 : decode cX5_write 46 = .ok (.ireturn, 1) := by decide +kernel
theorem dX5_wipe_0 : decode cX5_wipe 0 = .ok (.aload_n 0, 1) := by decide +kernel
theorem dX5_wipe_1 : decode cX5_wipe 1 = .ok (.getfield 12, 3) := by decide +kernel
theorem dX5_wipe_4 : decode cX5_wipe 4 = .ok (.getfield 87, 3) := by decide +kernel
theorem dX5_wipe_7 : decode cX5_wipe 7 = .ok (.istore_n 1, 1) := by decide +kernel
theorem dX5_wipe_8 : decode cX5_wipe 8 = .ok (.aload_n 0, 1) := by decide +kernel
theorem dX5_wipe_9 : decode cX5_wipe 9 = .ok (.getfield 12, 3) := by decide +kernel
theorem dX5_wipe_12 : decode cX5_wipe 12 = .ok (.invokevirtual 84, 3) := by decide +kernel
theorem dX5_wipe_15 : decode cX5_wipe 15 = .ok (.iload_n 1, 1) := by decide +kernel
theorem dX5_wipe_16 : decode cX5_wipe 16 = .ok (.ireturn, 1) := by decide +kernel
theorem dX5_fault_0 : decode cX5_fault 0 = .ok (.aload_n 0, 1) := by decide +kernel
theorem dX5_fault_1 : decode cX5_fault 1 = .ok (.getfield 12, 3) := by decide +kernel
theorem dX5_fault_4 : decode cX5_fault 4 = .ok (.aload_n 0, 1) := by decide +kernel
theorem dX5_fault_5 : decode cX5_fault 5 = .ok (.getfield 30, 3) := by decide +kernel
theorem dX5_fault_8 : decode cX5_fault 8 = .ok (.aload_n 0, 1) := by decide +kernel
theorem dX5_fault_9 : decode cX5_fault 9 = .ok (.getfield 33, 3) := by decide +kernel
theorem dX5_fault_12 : decode cX5_fault 12 = .ok (.invokevirtual 89, 3) := by decide +kernel
theorem dX5_fault_15 : decode cX5_fault 15 = .ok (.ireturn, 1) := by decide +kernel
theorem dX5_lay_0 : decode cX5_lay 0 = .ok (.aload_n 0, 1) := by decide +kernel
theorem dX5_lay_1 : decode cX5_lay 1 = .ok (.getfield 12, 3) := by decide +kernel
theorem dX5_lay_4 : decode cX5_lay 4 = .ok (.getfield 87, 3) := by decide +kernel
theorem dX5_lay_7 : decode cX5_lay 7 = .ok (.ifCond .eq 10, 3) := by decide +kernel
theorem dX5_lay_10 : decode cX5_lay 10 = .ok (.aload_n 0, 1) := by decide +kernel
theorem dX5_lay_11 : decode cX5_lay 11 = .ok (.invokevirtual 80, 3) := by decide +kernel
theorem dX5_lay_14 : decode cX5_lay 14 = .ok (.ifCond .ne 6, 3) := by decide +kernel
theorem dX5_lay_17 : decode cX5_lay 17 = .ok (.bipush (-2), 2) := by decide +kernel
theorem dX5_lay_19 : decode cX5_lay 19 = .ok (.ireturn, 1) := by decide +kernel
theorem dX5_lay_20 : decode cX5_lay 20 = .ok (.aload_n 0, 1) := by decide +kernel
theorem dX5_lay_21 : decode cX5_lay 21 = .ok (.getfield 19, 3) := by decide +kernel
theorem dX5_lay_24 : decode cX5_lay 24 = .ok (.getfield 93, 3) := by decide +kernel
theorem dX5_lay_27 : decode cX5_lay 27 = .ok (.ireturn, 1) := by decide +kernel
theorem dX5_cell_0 : decode cX5_cell 0 = .ok (.aload_n 0, 1) := by decide +kernel
theorem dX5_cell_1 : decode cX5_cell 1 = .ok (.getfield 19, 3) := by decide +kernel
theorem dX5_cell_4 : decode cX5_cell 4 = .ok (.iload_n 1, 1) := by decide +kernel
theorem dX5_cell_5 : decode cX5_cell 5 = .ok (.invokevirtual 96, 3) := by decide +kernel
theorem dX5_cell_8 : decode cX5_cell 8 = .ok (.ifCond .eq 12, 3) := by decide +kernel
theorem dX5_cell_11 : decode cX5_cell 11 = .ok (.iload_n 2, 1) := by decide +kernel
theorem dX5_cell_12 : decode cX5_cell 12 = .ok (.iconst 0, 1) := by decide +kernel
theorem dX5_cell_13 : decode cX5_cell 13 = .ok (.iconst 5, 1) := by decide +kernel
theorem dX5_cell_14 : decode cX5_cell 14 = .ok (.invokestatic 100, 3) := by decide +kernel
theorem dX5_cell_17 : decode cX5_cell 17 = .ok (.ifCond .ne 5, 3) := by decide +kernel
theorem dX5_cell_20 : decode cX5_cell 20 = .ok (.iconst (-1), 1) := by decide +kernel
theorem dX5_cell_21 : decode cX5_cell 21 = .ok (.ireturn, 1) := by decide +kernel
theorem dX5_cell_22 : decode cX5_cell 22 = .ok (.iload_n 2, 1) := by decide +kernel
theorem dX5_cell_23 : decode cX5_cell 23 = .ok (.ifCond .ne 13, 3) := by decide +kernel
theorem dX5_cell_26 : decode cX5_cell 26 = .ok (.aload_n 0, 1) := by decide +kernel
theorem dX5_cell_27 : decode cX5_cell 27 = .ok (.getfield 26, 3) := by decide +kernel
theorem dX5_cell_30 : decode cX5_cell 30 = .ok (.getfield 104, 3) := by decide +kernel
theorem dX5_cell_33 : decode cX5_cell 33 = .ok (.iload_n 1, 1) := by decide +kernel
theorem dX5_cell_34 : decode cX5_cell 34 = .ok (.iaload, 1) := by decide +kernel
theorem dX5_cell_35 : decode cX5_cell 35 = .ok (.ireturn, 1) := by decide +kernel
theorem dX5_cell_36 : decode cX5_cell 36 = .ok (.iload_n 2, 1) := by decide +kernel
theorem dX5_cell_37 : decode cX5_cell 37 = .ok (.iconst 1, 1) := by decide +kernel
theorem dX5_cell_38 : decode cX5_cell 38 = .ok (.if_icmp .ne 13, 3) := by decide +kernel
theorem dX5_cell_41 : decode cX5_cell 41 = .ok (.aload_n 0, 1) := by decide +kernel
theorem dX5_cell_42 : decode cX5_cell 42 = .ok (.getfield 19, 3) := by decide +kernel
theorem dX5_cell_45 : decode cX5_cell 45 = .ok (.getfield 107, 3) := by decide +kernel
theorem dX5_cell_48 : decode cX5_cell 48 = .ok (.iload_n 1, 1) := by decide +kernel
theorem dX5_cell_49 : decode cX5_cell 49 = .ok (.iaload, 1) := by decide +kernel
theorem dX5_cell_50 : decode cX5_cell 50 = .ok (.ireturn, 1) := by decide +kernel
theorem dX5_cell_51 : decode cX5_cell 51 = .ok (.iload_n 2, 1) := by decide +kernel
theorem dX5_cell_52 : decode cX5_cell 52 = .ok (.iconst 2, 1) := by decide +kernel
theorem dX5_cell_53 : decode cX5_cell 53 = .ok (.if_icmp .ne 13, 3) := by decide +kernel
theorem dX5_cell_56 : decode cX5_cell 56 = .ok (.aload_n 0, 1) := by decide +kernel
theorem dX5_cell_57 : decode cX5_cell 57 = .ok (.getfield 26, 3) := by decide +kernel
theorem dX5_cell_60 : decode cX5_cell 60 = .ok (.getfield 110, 3) := by decide +kernel
theorem dX5_cell_63 : decode cX5_cell 63 = .ok (.iload_n 1, 1) := by decide +kernel
theorem dX5_cell_64 : decode cX5_cell 64 = .ok (.iaload, 1) := by decide +kernel
theorem dX5_cell_65 : decode cX5_cell 65 = .ok (.ireturn, 1) := by decide +kernel
theorem dX5_cell_66 : decode cX5_cell 66 = .ok (.aload_n 0, 1) := by decide +kernel
theorem dX5_cell_67 : decode cX5_cell 67 = .ok (.getfield 39, 3) := by decide +kernel
theorem dX5_cell_70 : decode cX5_cell 70 = .ok (.aload_n 0, 1) := by decide +kernel
theorem dX5_cell_71 : decode cX5_cell 71 = .ok (.getfield 19, 3) := by decide +kernel
theorem dX5_cell_74 : decode cX5_cell 74 = .ok (.aload_n 0, 1) := by decide +kernel
theorem dX5_cell_75 : decode cX5_cell 75 = .ok (.getfield 26, 3) := by decide +kernel
theorem dX5_cell_78 : decode cX5_cell 78 = .ok (.invokevirtual 113, 3) := by decide +kernel
theorem dX5_cell_81 : decode cX5_cell 81 = .ok (.iload_n 2, 1) := by decide +kernel
theorem dX5_cell_82 : decode cX5_cell 82 = .ok (.iconst 3, 1) := by decide +kernel
theorem dX5_cell_83 : decode cX5_cell 83 = .ok (.if_icmp .ne 12, 3) := by decide +kernel
theorem dX5_cell_86 : decode cX5_cell 86 = .ok (.aload_n 0, 1) := by decide +kernel
theorem dX5_cell_87 : decode cX5_cell 87 = .ok (.getfield 39, 3) := by decide +kernel
theorem dX5_cell_90 : decode cX5_cell 90 = .ok (.iload_n 1, 1) := by decide +kernel
theorem dX5_cell_91 : decode cX5_cell 91 = .ok (.invokevirtual 117, 3) := by decide +kernel
theorem dX5_cell_94 : decode cX5_cell 94 = .ok (.ireturn, 1) := by decide +kernel
theorem dX5_cell_95 : decode cX5_cell 95 = .ok (.iload_n 2, 1) := by decide +kernel
theorem dX5_cell_96 : decode cX5_cell 96 = .ok (.iconst 4, 1) := by decide +kernel
theorem dX5_cell_97 : decode cX5_cell 97 = .ok (.if_icmp .ne 14, 3) := by decide +kernel
theorem dX5_cell_100 : decode cX5_cell 100 = .ok (.aload_n 0, 1) := by decide +kernel
theorem dX5_cell_101 : decode cX5_cell 101 = .ok (.getfield 39, 3) := by decide +kernel
theorem dX5_cell_104 : decode cX5_cell 104 = .ok (.iload_n 1, 1) := by decide +kernel
theorem dX5_cell_105 : decode cX5_cell 105 = .ok (.invokevirtual 121, 3) := by decide +kernel
theorem dX5_cell_108 : decode cX5_cell 108 = .ok (.goto 15, 3) := by decide +kernel
theorem dX5_cell_111 : decode cX5_cell 111 = .ok (.aload_n 0, 1) := by decide +kernel
theorem dX5_cell_112 : decode cX5_cell 112 = .ok (.getfield 39, 3) := by decide +kernel
theorem dX5_cell_115 : decode cX5_cell 115 = .ok (.iload_n 1, 1) := by decide +kernel
theorem dX5_cell_116 : decode cX5_cell 116 = .ok (.aload_n 0, 1) := by decide +kernel
theorem dX5_cell_117 : decode cX5_cell 117 = .ok (.getfield 26, 3) := by decide +kernel
theorem dX5_cell_120 : decode cX5_cell 120 = .ok (.invokevirtual 124, 3) := by decide +kernel
theorem dX5_cell_123 : decode cX5_cell 123 = .ok (.ireturn, 1) := by decide +kernel
theorem dX5_rain_0 : decode cX5_rain 0 = .ok (.iload_n 1, 1) := by decide +kernel
theorem dX5_rain_1 : decode cX5_rain 1 = .ok (.iconst 1, 1) := by decide +kernel
theorem dX5_rain_2 : decode cX5_rain 2 = .ok (.bipush 9, 2) := by decide +kernel
theorem dX5_rain_4 : decode cX5_rain 4 = .ok (.invokestatic 100, 3) := by decide +kernel
theorem dX5_rain_7 : decode cX5_rain 7 = .ok (.ifCond .ne 5, 3) := by decide +kernel
theorem dX5_rain_10 : decode cX5_rain 10 = .ok (.iconst (-1), 1) := by decide +kernel
theorem dX5_rain_11 : decode cX5_rain 11 = .ok (.ireturn, 1) := by decide +kernel
theorem dX5_rain_12 : decode cX5_rain 12 = .ok (.aload_n 0, 1) := by decide +kernel
theorem dX5_rain_13 : decode cX5_rain 13 = .ok (.getfield 46, 3) := by decide +kernel
theorem dX5_rain_16 : decode cX5_rain 16 = .ok (.aload_n 0, 1) := by decide +kernel
theorem dX5_rain_17 : decode cX5_rain 17 = .ok (.getfield 26, 3) := by decide +kernel
theorem dX5_rain_20 : decode cX5_rain 20 = .ok (.invokevirtual 128, 3) := by decide +kernel
theorem dX5_rain_23 : decode cX5_rain 23 = .ok (.aload_n 0, 1) := by decide +kernel
theorem dX5_rain_24 : decode cX5_rain 24 = .ok (.getfield 26, 3) := by decide +kernel
theorem dX5_rain_27 : decode cX5_rain 27 = .ok (.aload_n 0, 1) := by decide +kernel
theorem dX5_rain_28 : decode cX5_rain 28 = .ok (.getfield 19, 3) := by decide +kernel
theorem dX5_rain_31 : decode cX5_rain 31 = .ok (.iload_n 1, 1) := by decide +kernel
theorem dX5_rain_32 : decode cX5_rain 32 = .ok (.invokevirtual 132, 3) := by decide +kernel
theorem dX5_rain_35 : decode cX5_rain 35 = .ok (.aload_n 0, 1) := by decide +kernel
theorem dX5_rain_36 : decode cX5_rain 36 = .ok (.getfield 26, 3) := by decide +kernel
theorem dX5_rain_39 : decode cX5_rain 39 = .ok (.aload_n 0, 1) := by decide +kernel
theorem dX5_rain_40 : decode cX5_rain 40 = .ok (.getfield 19, 3) := by decide +kernel
theorem dX5_rain_43 : decode cX5_rain 43 = .ok (.invokevirtual 136, 3) := by decide +kernel
theorem dX5_rain_46 : decode cX5_rain 46 = .ok (.ireturn, 1) := by decide +kernel
theorem dX5_shine_0 : decode cX5_shine 0 = .ok (.iload_n 1, 1) := by decide +kernel
theorem dX5_shine_1 : decode cX5_shine 1 = .ok (.iconst 1, 1) := by decide +kernel
theorem dX5_shine_2 : decode cX5_shine 2 = .ok (.bipush 20, 2) := by decide +kernel
theorem dX5_shine_4 : decode cX5_shine 4 = .ok (.invokestatic 100, 3) := by decide +kernel
theorem dX5_shine_7 : decode cX5_shine 7 = .ok (.ifCond .ne 5, 3) := by decide +kernel
theorem dX5_shine_10 : decode cX5_shine 10 = .ok (.iconst (-1), 1) := by decide +kernel
theorem dX5_shine_11 : decode cX5_shine 11 = .ok (.ireturn, 1) := by decide +kernel
theorem dX5_shine_12 : decode cX5_shine 12 = .ok (.aload_n 0, 1) := by decide +kernel
theorem dX5_shine_13 : decode cX5_shine 13 = .ok (.getfield 46, 3) := by decide +kernel
theorem dX5_shine_16 : decode cX5_shine 16 = .ok (.aload_n 0, 1) := by decide +kernel
theorem dX5_shine_17 : decode cX5_shine 17 = .ok (.getfield 26, 3) := by decide +kernel
theorem dX5_shine_20 : decode cX5_shine 20 = .ok (.invokevirtual 128, 3) := by decide +kernel
theorem dX5_shine_23 : decode cX5_shine 23 = .ok (.aload_n 0, 1) := by decide +kernel
theorem dX5_shine_24 : decode cX5_shine 24 = .ok (.getfield 26, 3) := by decide +kernel
theorem dX5_shine_27 : decode cX5_shine 27 = .ok (.aload_n 0, 1) := by decide +kernel
theorem dX5_shine_28 : decode cX5_shine 28 = .ok (.getfield 19, 3) := by decide +kernel
theorem dX5_shine_31 : decode cX5_shine 31 = .ok (.iload_n 1, 1) := by decide +kernel
theorem dX5_shine_32 : decode cX5_shine 32 = .ok (.invokevirtual 140, 3) := by decide +kernel
theorem dX5_shine_35 : decode cX5_shine 35 = .ok (.aload_n 0, 1) := by decide +kernel
theorem dX5_shine_36 : decode cX5_shine 36 = .ok (.getfield 26, 3) := by decide +kernel
theorem dX5_shine_39 : decode cX5_shine 39 = .ok (.getfield 143, 3) := by decide +kernel
theorem dX5_shine_42 : decode cX5_shine 42 = .ok (.ireturn, 1) := by decide +kernel
theorem dX5_boot_0 : decode cX5_boot 0 = .ok (.aload_n 0, 1) := by decide +kernel
theorem dX5_boot_1 : decode cX5_boot 1 = .ok (.getfield 19, 3) := by decide +kernel
theorem dX5_boot_4 : decode cX5_boot 4 = .ok (.iload_n 1, 1) := by decide +kernel
theorem dX5_boot_5 : decode cX5_boot 5 = .ok (.invokevirtual 96, 3) := by decide +kernel
theorem dX5_boot_8 : decode cX5_boot 8 = .ok (.ifCond .ne 5, 3) := by decide +kernel
theorem dX5_boot_11 : decode cX5_boot 11 = .ok (.iconst (-1), 1) := by decide +kernel
theorem dX5_boot_12 : decode cX5_boot 12 = .ok (.ireturn, 1) := by decide +kernel
theorem dX5_boot_13 : decode cX5_boot 13 = .ok (.aload_n 0, 1) := by decide +kernel
theorem dX5_boot_14 : decode cX5_boot 14 = .ok (.getfield 26, 3) := by decide +kernel
theorem dX5_boot_17 : decode cX5_boot 17 = .ok (.getfield 110, 3) := by decide +kernel
theorem dX5_boot_20 : decode cX5_boot 20 = .ok (.iload_n 1, 1) := by decide +kernel
theorem dX5_boot_21 : decode cX5_boot 21 = .ok (.iaload, 1) := by decide +kernel
theorem dX5_boot_22 : decode cX5_boot 22 = .ok (.ifCond .ne 6, 3) := by decide +kernel
theorem dX5_boot_25 : decode cX5_boot 25 = .ok (.bipush (-2), 2) := by decide +kernel
theorem dX5_boot_27 : decode cX5_boot 27 = .ok (.ireturn, 1) := by decide +kernel
theorem dX5_boot_28 : decode cX5_boot 28 = .ok (.aload_n 0, 1) := by decide +kernel
theorem dX5_boot_29 : decode cX5_boot 29 = .ok (.getfield 46, 3) := by decide +kernel
theorem dX5_boot_32 : decode cX5_boot 32 = .ok (.aload_n 0, 1) := by decide +kernel
theorem dX5_boot_33 : decode cX5_boot 33 = .ok (.getfield 26, 3) := by decide +kernel
theorem dX5_boot_36 : decode cX5_boot 36 = .ok (.invokevirtual 128, 3) := by decide +kernel
theorem dX5_boot_39 : decode cX5_boot 39 = .ok (.aload_n 0, 1) := by decide +kernel
theorem dX5_boot_40 : decode cX5_boot 40 = .ok (.getfield 26, 3) := by decide +kernel
theorem dX5_boot_43 : decode cX5_boot 43 = .ok (.aload_n 0, 1) := by decide +kernel
theorem dX5_boot_44 : decode cX5_boot 44 = .ok (.getfield 19, 3) := by decide +kernel
theorem dX5_boot_47 : decode cX5_boot 47 = .ok (.iload_n 1, 1) := by decide +kernel
theorem dX5_boot_48 : decode cX5_boot 48 = .ok (.invokevirtual 146, 3) := by decide +kernel
theorem dX5_boot_51 : decode cX5_boot 51 = .ok (.aload_n 0, 1) := by decide +kernel
theorem dX5_boot_52 : decode cX5_boot 52 = .ok (.getfield 26, 3) := by decide +kernel
theorem dX5_boot_55 : decode cX5_boot 55 = .ok (.getfield 110, 3) := by decide +kernel
theorem dX5_boot_58 : decode cX5_boot 58 = .ok (.iload_n 1, 1) := by decide +kernel
theorem dX5_boot_59 : decode cX5_boot 59 = .ok (.iaload, 1) := by decide +kernel
theorem dX5_boot_60 : decode cX5_boot 60 = .ok (.ireturn, 1) := by decide +kernel
theorem dX5_stone_0 : decode cX5_stone 0 = .ok (.aload_n 0, 1) := by decide +kernel
theorem dX5_stone_1 : decode cX5_stone 1 = .ok (.getfield 19, 3) := by decide +kernel
theorem dX5_stone_4 : decode cX5_stone 4 = .ok (.iload_n 1, 1) := by decide +kernel
theorem dX5_stone_5 : decode cX5_stone 5 = .ok (.invokevirtual 96, 3) := by decide +kernel
theorem dX5_stone_8 : decode cX5_stone 8 = .ok (.ifCond .ne 5, 3) := by decide +kernel
theorem dX5_stone_11 : decode cX5_stone 11 = .ok (.iconst (-1), 1) := by decide +kernel
theorem dX5_stone_12 : decode cX5_stone 12 = .ok (.ireturn, 1) := by decide +kernel
theorem dX5_stone_13 : decode cX5_stone 13 = .ok (.aload_n 0, 1) := by decide +kernel
theorem dX5_stone_14 : decode cX5_stone 14 = .ok (.getfield 26, 3) := by decide +kernel
theorem dX5_stone_17 : decode cX5_stone 17 = .ok (.getfield 104, 3) := by decide +kernel
theorem dX5_stone_20 : decode cX5_stone 20 = .ok (.iload_n 1, 1) := by decide +kernel
theorem dX5_stone_21 : decode cX5_stone 21 = .ok (.iaload, 1) := by decide +kernel
theorem dX5_stone_22 : decode cX5_stone 22 = .ok (.iload_n 2, 1) := by decide +kernel
theorem dX5_stone_23 : decode cX5_stone 23 = .ok (.ifCond .eq 7, 3) := by decide +kernel
theorem dX5_stone_26 : decode cX5_stone 26 = .ok (.iconst (-1), 1) := by decide +kernel
theorem dX5_stone_27 : decode cX5_stone 27 = .ok (.goto 4, 3) := by decide +kernel
theorem dX5_stone_30 : decode cX5_stone 30 = .ok (.iconst 1, 1) := by decide +kernel
theorem dX5_stone_31 : decode cX5_stone 31 = .ok (.iadd, 1) := by decide +kernel
theorem dX5_stone_32 : decode cX5_stone 32 = .ok (.istore_n 3, 1) := by decide +kernel
theorem dX5_stone_33 : decode cX5_stone 33 = .ok (.iload_n 3, 1) := by decide +kernel
theorem dX5_stone_34 : decode cX5_stone 34 = .ok (.iconst 0, 1) := by decide +kernel
theorem dX5_stone_35 : decode cX5_stone 35 = .ok (.bipush 20, 2) := by decide +kernel
theorem dX5_stone_37 : decode cX5_stone 37 = .ok (.invokestatic 100, 3) := by decide +kernel
theorem dX5_stone_40 : decode cX5_stone 40 = .ok (.ifCond .eq 14, 3) := by decide +kernel
theorem dX5_stone_43 : decode cX5_stone 43 = .ok (.aload_n 0, 1) := by decide +kernel
theorem dX5_stone_44 : decode cX5_stone 44 = .ok (.getfield 19, 3) := by decide +kernel
theorem dX5_stone_47 : decode cX5_stone 47 = .ok (.iload_n 1, 1) := by decide +kernel
theorem dX5_stone_48 : decode cX5_stone 48 = .ok (.invokevirtual 149, 3) := by decide +kernel
theorem dX5_stone_51 : decode cX5_stone 51 = .ok (.ifCond .ne 6, 3) := by decide +kernel
theorem dX5_stone_54 : decode cX5_stone 54 = .ok (.bipush (-2), 2) := by decide +kernel
theorem dX5_stone_56 : decode cX5_stone 56 = .ok (.ireturn, 1) := by decide +kernel
theorem dX5_stone_57 : decode cX5_stone 57 = .ok (.aload_n 0, 1) := by decide +kernel
theorem dX5_stone_58 : decode cX5_stone 58 = .ok (.getfield 46, 3) := by decide +kernel
theorem dX5_stone_61 : decode cX5_stone 61 = .ok (.aload_n 0, 1) := by decide +kernel
theorem dX5_stone_62 : decode cX5_stone 62 = .ok (.getfield 26, 3) := by decide +kernel
theorem dX5_stone_65 : decode cX5_stone 65 = .ok (.invokevirtual 128, 3) := by decide +kernel
theorem dX5_stone_68 : decode cX5_stone 68 = .ok (.aload_n 0, 1) := by decide +kernel
theorem dX5_stone_69 : decode cX5_stone 69 = .ok (.getfield 26, 3) := by decide +kernel
theorem dX5_stone_72 : decode cX5_stone 72 = .ok (.getfield 104, 3) := by decide +kernel
theorem dX5_stone_75 : decode cX5_stone 75 = .ok (.iload_n 1, 1) := by decide +kernel
theorem dX5_stone_76 : decode cX5_stone 76 = .ok (.iload_n 3, 1) := by decide +kernel
theorem dX5_stone_77 : decode cX5_stone 77 = .ok (.iastore, 1) := by decide +kernel
theorem dX5_stone_78 : decode cX5_stone 78 = .ok (.aload_n 0, 1) := by decide +kernel
theorem dX5_stone_79 : decode cX5_stone 79 = .ok (.getfield 26, 3) := by decide +kernel
theorem dX5_stone_82 : decode cX5_stone 82 = .ok (.aload_n 0, 1) := by decide +kernel
theorem dX5_stone_83 : decode cX5_stone 83 = .ok (.getfield 19, 3) := by decide +kernel
theorem dX5_stone_86 : decode cX5_stone 86 = .ok (.invokevirtual 152, 3) := by decide +kernel
theorem dX5_stone_89 : decode cX5_stone 89 = .ok (.iload_n 3, 1) := by decide +kernel
theorem dX5_stone_90 : decode cX5_stone 90 = .ok (.ireturn, 1) := by decide +kernel
theorem dX5_undo_0 : decode cX5_undo 0 = .ok (.aload_n 0, 1) := by decide +kernel
theorem dX5_undo_1 : decode cX5_undo 1 = .ok (.getfield 46, 3) := by decide +kernel
theorem dX5_undo_4 : decode cX5_undo 4 = .ok (.getfield 156, 3) := by decide +kernel
theorem dX5_undo_7 : decode cX5_undo 7 = .ok (.ifCond .ne 6, 3) := by decide +kernel
theorem dX5_undo_10 : decode cX5_undo 10 = .ok (.bipush (-2), 2) := by decide +kernel
theorem dX5_undo_12 : decode cX5_undo 12 = .ok (.ireturn, 1) := by decide +kernel
theorem dX5_undo_13 : decode cX5_undo 13 = .ok (.aload_n 0, 1) := by decide +kernel
theorem dX5_undo_14 : decode cX5_undo 14 = .ok (.getfield 46, 3) := by decide +kernel
theorem dX5_undo_17 : decode cX5_undo 17 = .ok (.aload_n 0, 1) := by decide +kernel
theorem dX5_undo_18 : decode cX5_undo 18 = .ok (.getfield 26, 3) := by decide +kernel
theorem dX5_undo_21 : decode cX5_undo 21 = .ok (.invokevirtual 159, 3) := by decide +kernel
theorem dX5_undo_24 : decode cX5_undo 24 = .ok (.aload_n 0, 1) := by decide +kernel
theorem dX5_undo_25 : decode cX5_undo 25 = .ok (.getfield 46, 3) := by decide +kernel
theorem dX5_undo_28 : decode cX5_undo 28 = .ok (.getfield 156, 3) := by decide +kernel
theorem dX5_undo_31 : decode cX5_undo 31 = .ok (.ireturn, 1) := by decide +kernel
theorem dX5_behind_0 : decode cX5_behind 0 = .ok (.iload_n 1, 1) := by decide +kernel
theorem dX5_behind_1 : decode cX5_behind 1 = .ok (.iconst 0, 1) := by decide +kernel
theorem dX5_behind_2 : decode cX5_behind 2 = .ok (.bipush 40, 2) := by decide +kernel
theorem dX5_behind_4 : decode cX5_behind 4 = .ok (.invokestatic 100, 3) := by decide +kernel
theorem dX5_behind_7 : decode cX5_behind 7 = .ok (.ifCond .eq 23, 3) := by decide +kernel
theorem dX5_behind_10 : decode cX5_behind 10 = .ok (.aload_n 0, 1) := by decide +kernel
theorem dX5_behind_11 : decode cX5_behind 11 = .ok (.getfield 19, 3) := by decide +kernel
theorem dX5_behind_14 : decode cX5_behind 14 = .ok (.iload_n 2, 1) := by decide +kernel
theorem dX5_behind_15 : decode cX5_behind 15 = .ok (.invokevirtual 96, 3) := by decide +kernel
theorem dX5_behind_18 : decode cX5_behind 18 = .ok (.ifCond .eq 12, 3) := by decide +kernel
theorem dX5_behind_21 : decode cX5_behind 21 = .ok (.iload_n 3, 1) := by decide +kernel
theorem dX5_behind_22 : decode cX5_behind 22 = .ok (.iconst 0, 1) := by decide +kernel
theorem dX5_behind_23 : decode cX5_behind 23 = .ok (.iconst 1, 1) := by decide +kernel
theorem dX5_behind_24 : decode cX5_behind 24 = .ok (.invokestatic 100, 3) := by decide +kernel
theorem dX5_behind_27 : decode cX5_behind 27 = .ok (.ifCond .ne 5, 3) := by decide +kernel
theorem dX5_behind_30 : decode cX5_behind 30 = .ok (.iconst (-1), 1) := by decide +kernel
theorem dX5_behind_31 : decode cX5_behind 31 = .ok (.ireturn, 1) := by decide +kernel
theorem dX5_behind_32 : decode cX5_behind 32 = .ok (.aload_n 0, 1) := by decide +kernel
theorem dX5_behind_33 : decode cX5_behind 33 = .ok (.getfield 33, 3) := by decide +kernel
theorem dX5_behind_36 : decode cX5_behind 36 = .ok (.aload_n 0, 1) := by decide +kernel
theorem dX5_behind_37 : decode cX5_behind 37 = .ok (.getfield 26, 3) := by decide +kernel
theorem dX5_behind_40 : decode cX5_behind 40 = .ok (.invokevirtual 162, 3) := by decide +kernel
theorem dX5_behind_43 : decode cX5_behind 43 = .ok (.aload_n 0, 1) := by decide +kernel
theorem dX5_behind_44 : decode cX5_behind 44 = .ok (.getfield 33, 3) := by decide +kernel
theorem dX5_behind_47 : decode cX5_behind 47 = .ok (.aload_n 0, 1) := by decide +kernel
theorem dX5_behind_48 : decode cX5_behind 48 = .ok (.getfield 19, 3) := by decide +kernel
theorem dX5_behind_51 : decode cX5_behind 51 = .ok (.iload_n 1, 1) := by decide +kernel
theorem dX5_behind_52 : decode cX5_behind 52 = .ok (.invokevirtual 140, 3) := by decide +kernel
theorem dX5_behind_55 : decode cX5_behind 55 = .ok (.iload_n 3, 1) := by decide +kernel
theorem dX5_behind_56 : decode cX5_behind 56 = .ok (.ifCond .ne 13, 3) := by decide +kernel
theorem dX5_behind_59 : decode cX5_behind 59 = .ok (.aload_n 0, 1) := by decide +kernel
theorem dX5_behind_60 : decode cX5_behind 60 = .ok (.getfield 33, 3) := by decide +kernel
theorem dX5_behind_63 : decode cX5_behind 63 = .ok (.getfield 110, 3) := by decide +kernel
theorem dX5_behind_66 : decode cX5_behind 66 = .ok (.iload_n 2, 1) := by decide +kernel
theorem dX5_behind_67 : decode cX5_behind 67 = .ok (.iaload, 1) := by decide +kernel
theorem dX5_behind_68 : decode cX5_behind 68 = .ok (.ireturn, 1) := by decide +kernel
theorem dX5_behind_69 : decode cX5_behind 69 = .ok (.aload_n 0, 1) := by decide +kernel
theorem dX5_behind_70 : decode cX5_behind 70 = .ok (.getfield 39, 3) := by decide +kernel
theorem dX5_behind_73 : decode cX5_behind 73 = .ok (.aload_n 0, 1) := by decide +kernel
theorem dX5_behind_74 : decode cX5_behind 74 = .ok (.getfield 19, 3) := by decide +kernel
theorem dX5_behind_77 : decode cX5_behind 77 = .ok (.aload_n 0, 1) := by decide +kernel
theorem dX5_behind_78 : decode cX5_behind 78 = .ok (.getfield 33, 3) := by decide +kernel
theorem dX5_behind_81 : decode cX5_behind 81 = .ok (.invokevirtual 113, 3) := by decide +kernel
theorem dX5_behind_84 : decode cX5_behind 84 = .ok (.aload_n 0, 1) := by decide +kernel
theorem dX5_behind_85 : decode cX5_behind 85 = .ok (.getfield 39, 3) := by decide +kernel
theorem dX5_behind_88 : decode cX5_behind 88 = .ok (.iload_n 2, 1) := by decide +kernel
theorem dX5_behind_89 : decode cX5_behind 89 = .ok (.invokevirtual 117, 3) := by decide +kernel
theorem dX5_behind_92 : decode cX5_behind 92 = .ok (.ireturn, 1) := by decide +kernel
theorem dX5_dry_0 : decode cX5_dry 0 = .ok (.iload_n 1, 1) := by decide +kernel
theorem dX5_dry_1 : decode cX5_dry 1 = .ok (.iconst 0, 1) := by decide +kernel
theorem dX5_dry_2 : decode cX5_dry 2 = .ok (.iconst 1, 1) := by decide +kernel
theorem dX5_dry_3 : decode cX5_dry 3 = .ok (.invokestatic 100, 3) := by decide +kernel
theorem dX5_dry_6 : decode cX5_dry 6 = .ok (.ifCond .ne 5, 3) := by decide +kernel
theorem dX5_dry_9 : decode cX5_dry 9 = .ok (.iconst (-1), 1) := by decide +kernel
theorem dX5_dry_10 : decode cX5_dry 10 = .ok (.ireturn, 1) := by decide +kernel
theorem dX5_dry_11 : decode cX5_dry 11 = .ok (.aload_n 0, 1) := by decide +kernel
theorem dX5_dry_12 : decode cX5_dry 12 = .ok (.getfield 33, 3) := by decide +kernel
theorem dX5_dry_15 : decode cX5_dry 15 = .ok (.aload_n 0, 1) := by decide +kernel
theorem dX5_dry_16 : decode cX5_dry 16 = .ok (.getfield 26, 3) := by decide +kernel
theorem dX5_dry_19 : decode cX5_dry 19 = .ok (.invokevirtual 162, 3) := by decide +kernel
theorem dX5_dry_22 : decode cX5_dry 22 = .ok (.bipush (-4), 2) := by decide +kernel
theorem dX5_dry_24 : decode cX5_dry 24 = .ok (.istore_n 2, 1) := by decide +kernel
theorem dX5_dry_25 : decode cX5_dry 25 = .ok (.iconst 0, 1) := by decide +kernel
theorem dX5_dry_26 : decode cX5_dry 26 = .ok (.istore_n 3, 1) := by decide +kernel
theorem dX5_dry_27 : decode cX5_dry 27 = .ok (.iload_n 3, 1) := by decide +kernel
theorem dX5_dry_28 : decode cX5_dry 28 = .ok (.bipush 60, 2) := by decide +kernel
theorem dX5_dry_30 : decode cX5_dry 30 = .ok (.if_icmp .gt 53, 3) := by decide +kernel
theorem dX5_dry_33 : decode cX5_dry 33 = .ok (.aload_n 0, 1) := by decide +kernel
theorem dX5_dry_34 : decode cX5_dry 34 = .ok (.getfield 33, 3) := by decide +kernel
theorem dX5_dry_37 : decode cX5_dry 37 = .ok (.aload_n 0, 1) := by decide +kernel
theorem dX5_dry_38 : decode cX5_dry 38 = .ok (.getfield 19, 3) := by decide +kernel
theorem dX5_dry_41 : decode cX5_dry 41 = .ok (.invokevirtual 165, 3) := by decide +kernel
theorem dX5_dry_44 : decode cX5_dry 44 = .ok (.istore 4, 2) := by decide +kernel
theorem dX5_dry_46 : decode cX5_dry 46 = .ok (.iload 4, 2) := by decide +kernel
theorem dX5_dry_48 : decode cX5_dry 48 = .ok (.bipush (-4), 2) := by decide +kernel
theorem dX5_dry_50 : decode cX5_dry 50 = .ok (.if_icmp .ne 13, 3) := by decide +kernel
theorem dX5_dry_53 : decode cX5_dry 53 = .ok (.iload_n 1, 1) := by decide +kernel
theorem dX5_dry_54 : decode cX5_dry 54 = .ok (.ifCond .ne 7, 3) := by decide +kernel
theorem dX5_dry_57 : decode cX5_dry 57 = .ok (.iload_n 3, 1) := by decide +kernel
theorem dX5_dry_58 : decode cX5_dry 58 = .ok (.goto 4, 3) := by decide +kernel
theorem dX5_dry_61 : decode cX5_dry 61 = .ok (.iload_n 2, 1) := by decide +kernel
theorem dX5_dry_62 : decode cX5_dry 62 = .ok (.ireturn, 1) := by decide +kernel
theorem dX5_dry_63 : decode cX5_dry 63 = .ok (.iload 4, 2) := by decide +kernel
theorem dX5_dry_65 : decode cX5_dry 65 = .ok (.istore_n 2, 1) := by decide +kernel
theorem dX5_dry_66 : decode cX5_dry 66 = .ok (.aload_n 0, 1) := by decide +kernel
theorem dX5_dry_67 : decode cX5_dry 67 = .ok (.getfield 33, 3) := by decide +kernel
theorem dX5_dry_70 : decode cX5_dry 70 = .ok (.aload_n 0, 1) := by decide +kernel
theorem dX5_dry_71 : decode cX5_dry 71 = .ok (.getfield 19, 3) := by decide +kernel
theorem dX5_dry_74 : decode cX5_dry 74 = .ok (.invokevirtual 168, 3) := by decide +kernel
theorem dX5_dry_77 : decode cX5_dry 77 = .ok (.iinc 3 1, 3) := by decide +kernel
theorem dX5_dry_80 : decode cX5_dry 80 = .ok (.goto (-53), 3) := by decide +kernel
theorem dX5_dry_83 : decode cX5_dry 83 = .ok (.bipush (-4), 2) := by decide +kernel
theorem dX5_dry_85 : decode cX5_dry 85 = .ok (.ireturn, 1) := by decide +kernel
theorem dX5_join_0 : decode cX5_join 0 = .ok (.aload_n 0, 1) := by decide +kernel
theorem dX5_join_1 : decode cX5_join 1 = .ok (.iload_n 1, 1) := by decide +kernel
theorem dX5_join_2 : decode cX5_join 2 = .ok (.iload_n 2, 1) := by decide +kernel
theorem dX5_join_3 : decode cX5_join 3 = .ok (.invokevirtual 171, 3) := by decide +kernel
theorem dX5_join_6 : decode cX5_join 6 = .ok (.ifCond .ne 5, 3) := by decide +kernel
theorem dX5_join_9 : decode cX5_join 9 = .ok (.iconst (-1), 1) := by decide +kernel
theorem dX5_join_10 : decode cX5_join 10 = .ok (.ireturn, 1) := by decide +kernel
theorem dX5_join_11 : decode cX5_join 11 = .ok (.iconst 0, 1) := by decide +kernel
theorem dX5_join_12 : decode cX5_join 12 = .ok (.istore_n 3, 1) := by decide +kernel
theorem dX5_join_13 : decode cX5_join 13 = .ok (.iload_n 3, 1) := by decide +kernel
theorem dX5_join_14 : decode cX5_join 14 = .ok (.bipush 30, 2) := by decide +kernel
theorem dX5_join_16 : decode cX5_join 16 = .ok (.if_icmp .gt 25, 3) := by decide +kernel
theorem dX5_join_19 : decode cX5_join 19 = .ok (.aload_n 0, 1) := by decide +kernel
theorem dX5_join_20 : decode cX5_join 20 = .ok (.aload_n 0, 1) := by decide +kernel
theorem dX5_join_21 : decode cX5_join 21 = .ok (.getfield 19, 3) := by decide +kernel
theorem dX5_join_24 : decode cX5_join 24 = .ok (.iload_n 1, 1) := by decide +kernel
theorem dX5_join_25 : decode cX5_join 25 = .ok (.iload_n 2, 1) := by decide +kernel
theorem dX5_join_26 : decode cX5_join 26 = .ok (.iload_n 3, 1) := by decide +kernel
theorem dX5_join_27 : decode cX5_join 27 = .ok (.invokevirtual 175, 3) := by decide +kernel
theorem dX5_join_30 : decode cX5_join 30 = .ok (.ifCond .ne 5, 3) := by decide +kernel
theorem dX5_join_33 : decode cX5_join 33 = .ok (.iload_n 3, 1) := by decide +kernel
theorem dX5_join_34 : decode cX5_join 34 = .ok (.ireturn, 1) := by decide +kernel
theorem dX5_join_35 : decode cX5_join 35 = .ok (.iinc 3 1, 3) := by decide +kernel
theorem dX5_join_38 : decode cX5_join 38 = .ok (.goto (-25), 3) := by decide +kernel
theorem dX5_join_41 : decode cX5_join 41 = .ok (.bipush (-4), 2) := by decide +kernel
theorem dX5_join_43 : decode cX5_join 43 = .ok (.ireturn, 1) := by decide +kernel
theorem dX5_part_0 : decode cX5_part 0 = .ok (.aload_n 0, 1) := by decide +kernel
theorem dX5_part_1 : decode cX5_part 1 = .ok (.iload_n 1, 1) := by decide +kernel
theorem dX5_part_2 : decode cX5_part 2 = .ok (.iload_n 2, 1) := by decide +kernel
theorem dX5_part_3 : decode cX5_part 3 = .ok (.invokevirtual 171, 3) := by decide +kernel
theorem dX5_part_6 : decode cX5_part 6 = .ok (.ifCond .ne 5, 3) := by decide +kernel
theorem dX5_part_9 : decode cX5_part 9 = .ok (.iconst (-1), 1) := by decide +kernel
theorem dX5_part_10 : decode cX5_part 10 = .ok (.ireturn, 1) := by decide +kernel
theorem dX5_part_11 : decode cX5_part 11 = .ok (.aload_n 0, 1) := by decide +kernel
theorem dX5_part_12 : decode cX5_part 12 = .ok (.getfield 39, 3) := by decide +kernel
theorem dX5_part_15 : decode cX5_part 15 = .ok (.aload_n 0, 1) := by decide +kernel
theorem dX5_part_16 : decode cX5_part 16 = .ok (.getfield 19, 3) := by decide +kernel
theorem dX5_part_19 : decode cX5_part 19 = .ok (.aload_n 0, 1) := by decide +kernel
theorem dX5_part_20 : decode cX5_part 20 = .ok (.getfield 26, 3) := by decide +kernel
theorem dX5_part_23 : decode cX5_part 23 = .ok (.invokevirtual 113, 3) := by decide +kernel
theorem dX5_part_26 : decode cX5_part 26 = .ok (.aload_n 0, 1) := by decide +kernel
theorem dX5_part_27 : decode cX5_part 27 = .ok (.getfield 39, 3) := by decide +kernel
theorem dX5_part_30 : decode cX5_part 30 = .ok (.iload_n 1, 1) := by decide +kernel
theorem dX5_part_31 : decode cX5_part 31 = .ok (.iload_n 2, 1) := by decide +kernel
theorem dX5_part_32 : decode cX5_part 32 = .ok (.invokevirtual 179, 3) := by decide +kernel
theorem dX5_part_35 : decode cX5_part 35 = .ok (.ifCond .eq 6, 3) := by decide +kernel
theorem dX5_part_38 : decode cX5_part 38 = .ok (.bipush (-2), 2) := by decide +kernel
theorem dX5_part_40 : decode cX5_part 40 = .ok (.ireturn, 1) := by decide +kernel
theorem dX5_part_41 : decode cX5_part 41 = .ok (.aload_n 0, 1) := by decide +kernel
theorem dX5_part_42 : decode cX5_part 42 = .ok (.getfield 33, 3) := by decide +kernel
theorem dX5_part_45 : decode cX5_part 45 = .ok (.aload_n 0, 1) := by decide +kernel
theorem dX5_part_46 : decode cX5_part 46 = .ok (.getfield 26, 3) := by decide +kernel
theorem dX5_part_49 : decode cX5_part 49 = .ok (.invokevirtual 162, 3) := by decide +kernel
theorem dX5_part_52 : decode cX5_part 52 = .ok (.iconst 1, 1) := by decide +kernel
theorem dX5_part_53 : decode cX5_part 53 = .ok (.istore_n 3, 1) := by decide +kernel
theorem dX5_part_54 : decode cX5_part 54 = .ok (.iload_n 3, 1) := by decide +kernel
theorem dX5_part_55 : decode cX5_part 55 = .ok (.bipush 60, 2) := by decide +kernel
theorem dX5_part_57 : decode cX5_part 57 = .ok (.if_icmp .gt 49, 3) := by decide +kernel
theorem dX5_part_60 : decode cX5_part 60 = .ok (.aload_n 0, 1) := by decide +kernel
theorem dX5_part_61 : decode cX5_part 61 = .ok (.getfield 33, 3) := by decide +kernel
theorem dX5_part_64 : decode cX5_part 64 = .ok (.aload_n 0, 1) := by decide +kernel
theorem dX5_part_65 : decode cX5_part 65 = .ok (.getfield 19, 3) := by decide +kernel
theorem dX5_part_68 : decode cX5_part 68 = .ok (.invokevirtual 168, 3) := by decide +kernel
theorem dX5_part_71 : decode cX5_part 71 = .ok (.aload_n 0, 1) := by decide +kernel
theorem dX5_part_72 : decode cX5_part 72 = .ok (.getfield 39, 3) := by decide +kernel
theorem dX5_part_75 : decode cX5_part 75 = .ok (.aload_n 0, 1) := by decide +kernel
theorem dX5_part_76 : decode cX5_part 76 = .ok (.getfield 19, 3) := by decide +kernel
theorem dX5_part_79 : decode cX5_part 79 = .ok (.aload_n 0, 1) := by decide +kernel
theorem dX5_part_80 : decode cX5_part 80 = .ok (.getfield 33, 3) := by decide +kernel
theorem dX5_part_83 : decode cX5_part 83 = .ok (.invokevirtual 113, 3) := by decide +kernel
theorem dX5_part_86 : decode cX5_part 86 = .ok (.aload_n 0, 1) := by decide +kernel
theorem dX5_part_87 : decode cX5_part 87 = .ok (.getfield 39, 3) := by decide +kernel
theorem dX5_part_90 : decode cX5_part 90 = .ok (.iload_n 1, 1) := by decide +kernel
theorem dX5_part_91 : decode cX5_part 91 = .ok (.iload_n 2, 1) := by decide +kernel
theorem dX5_part_92 : decode cX5_part 92 = .ok (.invokevirtual 179, 3) := by decide +kernel
theorem dX5_part_95 : decode cX5_part 95 = .ok (.ifCond .eq 5, 3) := by decide +kernel
theorem dX5_part_98 : decode cX5_part 98 = .ok (.iload_n 3, 1) := by decide +kernel
theorem dX5_part_99 : decode cX5_part 99 = .ok (.ireturn, 1) := by decide +kernel
theorem dX5_part_100 : decode cX5_part 100 = .ok (.iinc 3 1, 3) := by decide +kernel
theorem dX5_part_103 : decode cX5_part 103 = .ok (.goto (-49), 3) := by decide +kernel
theorem dX5_part_106 : decode cX5_part 106 = .ok (.bipush (-4), 2) := by decide +kernel
theorem dX5_part_108 : decode cX5_part 108 = .ok (.ireturn, 1) := by decide +kernel
theorem dX5_way_0 : decode cX5_way 0 = .ok (.aload_n 0, 1) := by decide +kernel
theorem dX5_way_1 : decode cX5_way 1 = .ok (.getfield 19, 3) := by decide +kernel
theorem dX5_way_4 : decode cX5_way 4 = .ok (.iload_n 1, 1) := by decide +kernel
theorem dX5_way_5 : decode cX5_way 5 = .ok (.invokevirtual 96, 3) := by decide +kernel
theorem dX5_way_8 : decode cX5_way 8 = .ok (.ifCond .eq 14, 3) := by decide +kernel
theorem dX5_way_11 : decode cX5_way 11 = .ok (.aload_n 0, 1) := by decide +kernel
theorem dX5_way_12 : decode cX5_way 12 = .ok (.getfield 19, 3) := by decide +kernel
theorem dX5_way_15 : decode cX5_way 15 = .ok (.iload_n 2, 1) := by decide +kernel
theorem dX5_way_16 : decode cX5_way 16 = .ok (.invokevirtual 96, 3) := by decide +kernel
theorem dX5_way_19 : decode cX5_way 19 = .ok (.ifCond .ne 5, 3) := by decide +kernel
theorem dX5_way_22 : decode cX5_way 22 = .ok (.iconst (-1), 1) := by decide +kernel
theorem dX5_way_23 : decode cX5_way 23 = .ok (.ireturn, 1) := by decide +kernel
theorem dX5_way_24 : decode cX5_way 24 = .ok (.aload_n 0, 1) := by decide +kernel
theorem dX5_way_25 : decode cX5_way 25 = .ok (.getfield 26, 3) := by decide +kernel
theorem dX5_way_28 : decode cX5_way 28 = .ok (.getfield 110, 3) := by decide +kernel
theorem dX5_way_31 : decode cX5_way 31 = .ok (.iload_n 1, 1) := by decide +kernel
theorem dX5_way_32 : decode cX5_way 32 = .ok (.iaload, 1) := by decide +kernel
theorem dX5_way_33 : decode cX5_way 33 = .ok (.ifCond .ne 6, 3) := by decide +kernel
theorem dX5_way_36 : decode cX5_way 36 = .ok (.bipush (-4), 2) := by decide +kernel
theorem dX5_way_38 : decode cX5_way 38 = .ok (.ireturn, 1) := by decide +kernel
theorem dX5_way_39 : decode cX5_way 39 = .ok (.aload_n 0, 1) := by decide +kernel
theorem dX5_way_40 : decode cX5_way 40 = .ok (.getfield 33, 3) := by decide +kernel
theorem dX5_way_43 : decode cX5_way 43 = .ok (.aload_n 0, 1) := by decide +kernel
theorem dX5_way_44 : decode cX5_way 44 = .ok (.getfield 26, 3) := by decide +kernel
theorem dX5_way_47 : decode cX5_way 47 = .ok (.invokevirtual 162, 3) := by decide +kernel
theorem dX5_way_50 : decode cX5_way 50 = .ok (.lconst 1, 1) := by decide +kernel
theorem dX5_way_51 : decode cX5_way 51 = .ok (.iload_n 1, 1) := by decide +kernel
theorem dX5_way_52 : decode cX5_way 52 = .ok (.lshl, 1) := by decide +kernel
theorem dX5_way_53 : decode cX5_way 53 = .ok (.lstore_n 3, 1) := by decide +kernel
theorem dX5_way_54 : decode cX5_way 54 = .ok (.iconst 0, 1) := by decide +kernel
theorem dX5_way_55 : decode cX5_way 55 = .ok (.istore 5, 2) := by decide +kernel
theorem dX5_way_57 : decode cX5_way 57 = .ok (.iload 5, 2) := by decide +kernel
theorem dX5_way_59 : decode cX5_way 59 = .ok (.bipush 40, 2) := by decide +kernel
theorem dX5_way_61 : decode cX5_way 61 = .ok (.if_icmp .gt 68, 3) := by decide +kernel
theorem dX5_way_64 : decode cX5_way 64 = .ok (.lload_n 3, 1) := by decide +kernel
theorem dX5_way_65 : decode cX5_way 65 = .ok (.iload_n 2, 1) := by decide +kernel
theorem dX5_way_66 : decode cX5_way 66 = .ok (.lshr, 1) := by decide +kernel
theorem dX5_way_67 : decode cX5_way 67 = .ok (.lconst 1, 1) := by decide +kernel
theorem dX5_way_68 : decode cX5_way 68 = .ok (.land, 1) := by decide +kernel
theorem dX5_way_69 : decode cX5_way 69 = .ok (.lconst 1, 1) := by decide +kernel
theorem dX5_way_70 : decode cX5_way 70 = .ok (.lcmp, 1) := by decide +kernel
theorem dX5_way_71 : decode cX5_way 71 = .ok (.ifCond .ne 6, 3) := by decide +kernel
theorem dX5_way_74 : decode cX5_way 74 = .ok (.iload 5, 2) := by decide +kernel
theorem dX5_way_76 : decode cX5_way 76 = .ok (.ireturn, 1) := by decide +kernel
theorem dX5_way_77 : decode cX5_way 77 = .ok (.aload_n 0, 1) := by decide +kernel
theorem dX5_way_78 : decode cX5_way 78 = .ok (.getfield 19, 3) := by decide +kernel
theorem dX5_way_81 : decode cX5_way 81 = .ok (.lload_n 3, 1) := by decide +kernel
theorem dX5_way_82 : decode cX5_way 82 = .ok (.invokevirtual 182, 3) := by decide +kernel
theorem dX5_way_85 : decode cX5_way 85 = .ok (.aload_n 0, 1) := by decide +kernel
theorem dX5_way_86 : decode cX5_way 86 = .ok (.getfield 33, 3) := by decide +kernel
theorem dX5_way_89 : decode cX5_way 89 = .ok (.aload_n 0, 1) := by decide +kernel
theorem dX5_way_90 : decode cX5_way 90 = .ok (.getfield 19, 3) := by decide +kernel
theorem dX5_way_93 : decode cX5_way 93 = .ok (.invokevirtual 186, 3) := by decide +kernel
theorem dX5_way_96 : decode cX5_way 96 = .ok (.land, 1) := by decide +kernel
theorem dX5_way_97 : decode cX5_way 97 = .ok (.lstore_n 3, 1) := by decide +kernel
theorem dX5_way_98 : decode cX5_way 98 = .ok (.aload_n 0, 1) := by decide +kernel
theorem dX5_way_99 : decode cX5_way 99 = .ok (.getfield 33, 3) := by decide +kernel
theorem dX5_way_102 : decode cX5_way 102 = .ok (.aload_n 0, 1) := by decide +kernel
theorem dX5_way_103 : decode cX5_way 103 = .ok (.getfield 19, 3) := by decide +kernel
theorem dX5_way_106 : decode cX5_way 106 = .ok (.invokevirtual 168, 3) := by decide +kernel
theorem dX5_way_109 : decode cX5_way 109 = .ok (.lload_n 3, 1) := by decide +kernel
theorem dX5_way_110 : decode cX5_way 110 = .ok (.aload_n 0, 1) := by decide +kernel
theorem dX5_way_111 : decode cX5_way 111 = .ok (.getfield 33, 3) := by decide +kernel
theorem dX5_way_114 : decode cX5_way 114 = .ok (.aload_n 0, 1) := by decide +kernel
theorem dX5_way_115 : decode cX5_way 115 = .ok (.getfield 19, 3) := by decide +kernel
theorem dX5_way_118 : decode cX5_way 118 = .ok (.invokevirtual 186, 3) := by decide +kernel
theorem dX5_way_121 : decode cX5_way 121 = .ok (.land, 1) := by decide +kernel
theorem dX5_way_122 : decode cX5_way 122 = .ok (.lstore_n 3, 1) := by decide +kernel
theorem dX5_way_123 : decode cX5_way 123 = .ok (.iinc 5 1, 3) := by decide +kernel
theorem dX5_way_126 : decode cX5_way 126 = .ok (.goto (-69), 3) := by decide +kernel
theorem dX5_way_129 : decode cX5_way 129 = .ok (.bipush (-4), 2) := by decide +kernel
theorem dX5_way_131 : decode cX5_way 131 = .ok (.ireturn, 1) := by decide +kernel
theorem dX5_kerb_0 : decode cX5_kerb 0 = .ok (.aload_n 0, 1) := by decide +kernel
theorem dX5_kerb_1 : decode cX5_kerb 1 = .ok (.iload_n 1, 1) := by decide +kernel
theorem dX5_kerb_2 : decode cX5_kerb 2 = .ok (.iload_n 2, 1) := by decide +kernel
theorem dX5_kerb_3 : decode cX5_kerb 3 = .ok (.invokevirtual 171, 3) := by decide +kernel
theorem dX5_kerb_6 : decode cX5_kerb 6 = .ok (.ifCond .eq 13, 3) := by decide +kernel
theorem dX5_kerb_9 : decode cX5_kerb 9 = .ok (.iload_n 3, 1) := by decide +kernel
theorem dX5_kerb_10 : decode cX5_kerb 10 = .ok (.iconst 0, 1) := by decide +kernel
theorem dX5_kerb_11 : decode cX5_kerb 11 = .ok (.bipush 9, 2) := by decide +kernel
theorem dX5_kerb_13 : decode cX5_kerb 13 = .ok (.invokestatic 100, 3) := by decide +kernel
theorem dX5_kerb_16 : decode cX5_kerb 16 = .ok (.ifCond .ne 5, 3) := by decide +kernel
theorem dX5_kerb_19 : decode cX5_kerb 19 = .ok (.iconst (-1), 1) := by decide +kernel
theorem dX5_kerb_20 : decode cX5_kerb 20 = .ok (.ireturn, 1) := by decide +kernel
theorem dX5_kerb_21 : decode cX5_kerb 21 = .ok (.aload_n 0, 1) := by decide +kernel
theorem dX5_kerb_22 : decode cX5_kerb 22 = .ok (.aload_n 0, 1) := by decide +kernel
theorem dX5_kerb_23 : decode cX5_kerb 23 = .ok (.getfield 19, 3) := by decide +kernel
theorem dX5_kerb_26 : decode cX5_kerb 26 = .ok (.iload_n 1, 1) := by decide +kernel
theorem dX5_kerb_27 : decode cX5_kerb 27 = .ok (.iload_n 2, 1) := by decide +kernel
theorem dX5_kerb_28 : decode cX5_kerb 28 = .ok (.iload_n 3, 1) := by decide +kernel
theorem dX5_kerb_29 : decode cX5_kerb 29 = .ok (.invokevirtual 175, 3) := by decide +kernel
theorem dX5_kerb_32 : decode cX5_kerb 32 = .ok (.ifCond .eq 6, 3) := by decide +kernel
theorem dX5_kerb_35 : decode cX5_kerb 35 = .ok (.bipush 100, 2) := by decide +kernel
theorem dX5_kerb_37 : decode cX5_kerb 37 = .ok (.ireturn, 1) := by decide +kernel
theorem dX5_kerb_38 : decode cX5_kerb 38 = .ok (.iconst 0, 1) := by decide +kernel
theorem dX5_kerb_39 : decode cX5_kerb 39 = .ok (.istore 4, 2) := by decide +kernel
theorem dX5_kerb_41 : decode cX5_kerb 41 = .ok (.iload 4, 2) := by decide +kernel
theorem dX5_kerb_43 : decode cX5_kerb 43 = .ok (.aload_n 0, 1) := by decide +kernel
theorem dX5_kerb_44 : decode cX5_kerb 44 = .ok (.getfield 19, 3) := by decide +kernel
theorem dX5_kerb_47 : decode cX5_kerb 47 = .ok (.getfield 93, 3) := by decide +kernel
theorem dX5_kerb_50 : decode cX5_kerb 50 = .ok (.if_icmp .ge 64, 3) := by decide +kernel
theorem dX5_kerb_53 : decode cX5_kerb 53 = .ok (.iload 4, 2) := by decide +kernel
theorem dX5_kerb_55 : decode cX5_kerb 55 = .ok (.bipush 36, 2) := by decide +kernel
theorem dX5_kerb_57 : decode cX5_kerb 57 = .ok (.if_icmp .ge 57, 3) := by decide +kernel
theorem dX5_kerb_60 : decode cX5_kerb 60 = .ok (.aload_n 0, 1) := by decide +kernel
theorem dX5_kerb_61 : decode cX5_kerb 61 = .ok (.iload 4, 2) := by decide +kernel
theorem dX5_kerb_63 : decode cX5_kerb 63 = .ok (.iload_n 1, 1) := by decide +kernel
theorem dX5_kerb_64 : decode cX5_kerb 64 = .ok (.iload_n 2, 1) := by decide +kernel
theorem dX5_kerb_65 : decode cX5_kerb 65 = .ok (.invokevirtual 190, 3) := by decide +kernel
theorem dX5_kerb_68 : decode cX5_kerb 68 = .ok (.ifCond .eq 40, 3) := by decide +kernel
theorem dX5_kerb_71 : decode cX5_kerb 71 = .ok (.aload_n 0, 1) := by decide +kernel
theorem dX5_kerb_72 : decode cX5_kerb 72 = .ok (.getfield 30, 3) := by decide +kernel
theorem dX5_kerb_75 : decode cX5_kerb 75 = .ok (.aload_n 0, 1) := by decide +kernel
theorem dX5_kerb_76 : decode cX5_kerb 76 = .ok (.getfield 19, 3) := by decide +kernel
theorem dX5_kerb_79 : decode cX5_kerb 79 = .ok (.invokevirtual 193, 3) := by decide +kernel
theorem dX5_kerb_82 : decode cX5_kerb 82 = .ok (.aload_n 0, 1) := by decide +kernel
theorem dX5_kerb_83 : decode cX5_kerb 83 = .ok (.getfield 30, 3) := by decide +kernel
theorem dX5_kerb_86 : decode cX5_kerb 86 = .ok (.iload 4, 2) := by decide +kernel
theorem dX5_kerb_88 : decode cX5_kerb 88 = .ok (.invokevirtual 195, 3) := by decide +kernel
theorem dX5_kerb_91 : decode cX5_kerb 91 = .ok (.aload_n 0, 1) := by decide +kernel
theorem dX5_kerb_92 : decode cX5_kerb 92 = .ok (.aload_n 0, 1) := by decide +kernel
theorem dX5_kerb_93 : decode cX5_kerb 93 = .ok (.getfield 30, 3) := by decide +kernel
theorem dX5_kerb_96 : decode cX5_kerb 96 = .ok (.iload_n 1, 1) := by decide +kernel
theorem dX5_kerb_97 : decode cX5_kerb 97 = .ok (.iload_n 2, 1) := by decide +kernel
theorem dX5_kerb_98 : decode cX5_kerb 98 = .ok (.iload_n 3, 1) := by decide +kernel
theorem dX5_kerb_99 : decode cX5_kerb 99 = .ok (.invokevirtual 175, 3) := by decide +kernel
theorem dX5_kerb_102 : decode cX5_kerb 102 = .ok (.ifCond .eq 6, 3) := by decide +kernel
theorem dX5_kerb_105 : decode cX5_kerb 105 = .ok (.iload 4, 2) := by decide +kernel
theorem dX5_kerb_107 : decode cX5_kerb 107 = .ok (.ireturn, 1) := by decide +kernel
theorem dX5_kerb_108 : decode cX5_kerb 108 = .ok (.iinc 4 1, 3) := by decide +kernel
theorem dX5_kerb_111 : decode cX5_kerb 111 = .ok (.goto (-70), 3) := by decide +kernel
theorem dX5_kerb_114 : decode cX5_kerb 114 = .ok (.bipush (-4), 2) := by decide +kernel
theorem dX5_kerb_116 : decode cX5_kerb 116 = .ok (.ireturn, 1) := by decide +kernel
theorem dX5_ring_0 : decode cX5_ring 0 = .ok (.aload_n 0, 1) := by decide +kernel
theorem dX5_ring_1 : decode cX5_ring 1 = .ok (.getfield 19, 3) := by decide +kernel
theorem dX5_ring_4 : decode cX5_ring 4 = .ok (.iload_n 1, 1) := by decide +kernel
theorem dX5_ring_5 : decode cX5_ring 5 = .ok (.invokevirtual 96, 3) := by decide +kernel
theorem dX5_ring_8 : decode cX5_ring 8 = .ok (.ifCond .eq 13, 3) := by decide +kernel
theorem dX5_ring_11 : decode cX5_ring 11 = .ok (.iload_n 2, 1) := by decide +kernel
theorem dX5_ring_12 : decode cX5_ring 12 = .ok (.iconst 0, 1) := by decide +kernel
theorem dX5_ring_13 : decode cX5_ring 13 = .ok (.bipush 60, 2) := by decide +kernel
theorem dX5_ring_15 : decode cX5_ring 15 = .ok (.invokestatic 100, 3) := by decide +kernel
theorem dX5_ring_18 : decode cX5_ring 18 = .ok (.ifCond .ne 5, 3) := by decide +kernel
theorem dX5_ring_21 : decode cX5_ring 21 = .ok (.iconst (-1), 1) := by decide +kernel
theorem dX5_ring_22 : decode cX5_ring 22 = .ok (.ireturn, 1) := by decide +kernel
theorem dX5_ring_23 : decode cX5_ring 23 = .ok (.aload_n 0, 1) := by decide +kernel
theorem dX5_ring_24 : decode cX5_ring 24 = .ok (.getfield 60, 3) := by decide +kernel
theorem dX5_ring_27 : decode cX5_ring 27 = .ok (.ifCond .lt 12, 3) := by decide +kernel
theorem dX5_ring_30 : decode cX5_ring 30 = .ok (.aload_n 0, 1) := by decide +kernel
theorem dX5_ring_31 : decode cX5_ring 31 = .ok (.getfield 60, 3) := by decide +kernel
theorem dX5_ring_34 : decode cX5_ring 34 = .ok (.bipush 6, 2) := by decide +kernel
theorem dX5_ring_36 : decode cX5_ring 36 = .ok (.if_icmp .lt 6, 3) := by decide +kernel
theorem dX5_ring_39 : decode cX5_ring 39 = .ok (.bipush (-3), 2) := by decide +kernel
theorem dX5_ring_41 : decode cX5_ring 41 = .ok (.ireturn, 1) := by decide +kernel
theorem dX5_ring_42 : decode cX5_ring 42 = .ok (.aload_n 0, 1) := by decide +kernel
theorem dX5_ring_43 : decode cX5_ring 43 = .ok (.getfield 53, 3) := by decide +kernel
theorem dX5_ring_46 : decode cX5_ring 46 = .ok (.aload_n 0, 1) := by decide +kernel
theorem dX5_ring_47 : decode cX5_ring 47 = .ok (.getfield 60, 3) := by decide +kernel
theorem dX5_ring_50 : decode cX5_ring 50 = .ok (.iload_n 1, 1) := by decide +kernel
theorem dX5_ring_51 : decode cX5_ring 51 = .ok (.iastore, 1) := by decide +kernel
theorem dX5_ring_52 : decode cX5_ring 52 = .ok (.aload_n 0, 1) := by decide +kernel
theorem dX5_ring_53 : decode cX5_ring 53 = .ok (.getfield 57, 3) := by decide +kernel
theorem dX5_ring_56 : decode cX5_ring 56 = .ok (.aload_n 0, 1) := by decide +kernel
theorem dX5_ring_57 : decode cX5_ring 57 = .ok (.getfield 60, 3) := by decide +kernel
theorem dX5_ring_60 : decode cX5_ring 60 = .ok (.iload_n 2, 1) := by decide +kernel
theorem dX5_ring_61 : decode cX5_ring 61 = .ok (.iastore, 1) := by decide +kernel
theorem dX5_ring_62 : decode cX5_ring 62 = .ok (.aload_n 0, 1) := by decide +kernel
theorem dX5_ring_63 : decode cX5_ring 63 = .ok (.dup, 1) := by decide +kernel
theorem dX5_ring_64 : decode cX5_ring 64 = .ok (.getfield 60, 3) := by decide +kernel
theorem dX5_ring_67 : decode cX5_ring 67 = .ok (.iconst 1, 1) := by decide +kernel
theorem dX5_ring_68 : decode cX5_ring 68 = .ok (.iadd, 1) := by decide +kernel
theorem dX5_ring_69 : decode cX5_ring 69 = .ok (.putfield 60, 3) := by decide +kernel
theorem dX5_ring_72 : decode cX5_ring 72 = .ok (.aload_n 0, 1) := by decide +kernel
theorem dX5_ring_73 : decode cX5_ring 73 = .ok (.getfield 60, 3) := by decide +kernel
theorem dX5_ring_76 : decode cX5_ring 76 = .ok (.ireturn, 1) := by decide +kernel
theorem dX5_forget_0 : decode cX5_forget 0 = .ok (.aload_n 0, 1) := by decide +kernel
theorem dX5_forget_1 : decode cX5_forget 1 = .ok (.getfield 60, 3) := by decide +kernel
theorem dX5_forget_4 : decode cX5_forget 4 = .ok (.istore_n 1, 1) := by decide +kernel
theorem dX5_forget_5 : decode cX5_forget 5 = .ok (.aload_n 0, 1) := by decide +kernel
theorem dX5_forget_6 : decode cX5_forget 6 = .ok (.iconst 0, 1) := by decide +kernel
theorem dX5_forget_7 : decode cX5_forget 7 = .ok (.putfield 60, 3) := by decide +kernel
theorem dX5_forget_10 : decode cX5_forget 10 = .ok (.iload_n 1, 1) := by decide +kernel
theorem dX5_forget_11 : decode cX5_forget 11 = .ok (.ireturn, 1) := by decide +kernel
theorem dX5_rains_0 : decode cX5_rains 0 = .ok (.aload_n 0, 1) := by decide +kernel
theorem dX5_rains_1 : decode cX5_rains 1 = .ok (.getfield 60, 3) := by decide +kernel
theorem dX5_rains_4 : decode cX5_rains 4 = .ok (.ifCond .ne 6, 3) := by decide +kernel
theorem dX5_rains_7 : decode cX5_rains 7 = .ok (.ldc 199, 2) := by decide +kernel
theorem dX5_rains_9 : decode cX5_rains 9 = .ok (.ireturn, 1) := by decide +kernel
theorem dX5_rains_10 : decode cX5_rains 10 = .ok (.iconst 0, 1) := by decide +kernel
theorem dX5_rains_11 : decode cX5_rains 11 = .ok (.istore_n 1, 1) := by decide +kernel
theorem dX5_rains_12 : decode cX5_rains 12 = .ok (.iconst 0, 1) := by decide +kernel
theorem dX5_rains_13 : decode cX5_rains 13 = .ok (.istore_n 2, 1) := by decide +kernel
theorem dX5_rains_14 : decode cX5_rains 14 = .ok (.iload_n 2, 1) := by decide +kernel
theorem dX5_rains_15 : decode cX5_rains 15 = .ok (.bipush 30, 2) := by decide +kernel
theorem dX5_rains_17 : decode cX5_rains 17 = .ok (.if_icmp .gt 45, 3) := by decide +kernel
theorem dX5_rains_20 : decode cX5_rains 20 = .ok (.aload_n 0, 1) := by decide +kernel
theorem dX5_rains_21 : decode cX5_rains 21 = .ok (.getfield 33, 3) := by decide +kernel
theorem dX5_rains_24 : decode cX5_rains 24 = .ok (.aload_n 0, 1) := by decide +kernel
theorem dX5_rains_25 : decode cX5_rains 25 = .ok (.getfield 26, 3) := by decide +kernel
theorem dX5_rains_28 : decode cX5_rains 28 = .ok (.invokevirtual 162, 3) := by decide +kernel
theorem dX5_rains_31 : decode cX5_rains 31 = .ok (.aload_n 0, 1) := by decide +kernel
theorem dX5_rains_32 : decode cX5_rains 32 = .ok (.getfield 33, 3) := by decide +kernel
theorem dX5_rains_35 : decode cX5_rains 35 = .ok (.aload_n 0, 1) := by decide +kernel
theorem dX5_rains_36 : decode cX5_rains 36 = .ok (.getfield 19, 3) := by decide +kernel
theorem dX5_rains_39 : decode cX5_rains 39 = .ok (.iload_n 2, 1) := by decide +kernel
theorem dX5_rains_40 : decode cX5_rains 40 = .ok (.invokevirtual 132, 3) := by decide +kernel
theorem dX5_rains_43 : decode cX5_rains 43 = .ok (.aload_n 0, 1) := by decide +kernel
theorem dX5_rains_44 : decode cX5_rains 44 = .ok (.invokevirtual 200, 3) := by decide +kernel
theorem dX5_rains_47 : decode cX5_rains 47 = .ok (.ifCond .eq 9, 3) := by decide +kernel
theorem dX5_rains_50 : decode cX5_rains 50 = .ok (.iload_n 1, 1) := by decide +kernel
theorem dX5_rains_51 : decode cX5_rains 51 = .ok (.iconst 1, 1) := by decide +kernel
theorem dX5_rains_52 : decode cX5_rains 52 = .ok (.iload_n 2, 1) := by decide +kernel
theorem dX5_rains_53 : decode cX5_rains 53 = .ok (.ishl, 1) := by decide +kernel
theorem dX5_rains_54 : decode cX5_rains 54 = .ok (.ior, 1) := by decide +kernel
theorem dX5_rains_55 : decode cX5_rains 55 = .ok (.istore_n 1, 1) := by decide +kernel
theorem dX5_rains_56 : decode cX5_rains 56 = .ok (.iinc 2 1, 3) := by decide +kernel
theorem dX5_rains_59 : decode cX5_rains 59 = .ok (.goto (-45), 3) := by decide +kernel
theorem dX5_rains_62 : decode cX5_rains 62 = .ok (.iload_n 1, 1) := by decide +kernel
theorem dX5_rains_63 : decode cX5_rains 63 = .ok (.ireturn, 1) := by decide +kernel
theorem dX5_sky_0 : decode cX5_sky 0 = .ok (.aload_n 0, 1) := by decide +kernel
theorem dX5_sky_1 : decode cX5_sky 1 = .ok (.getfield 19, 3) := by decide +kernel
theorem dX5_sky_4 : decode cX5_sky 4 = .ok (.iload_n 1, 1) := by decide +kernel
theorem dX5_sky_5 : decode cX5_sky 5 = .ok (.invokevirtual 96, 3) := by decide +kernel
theorem dX5_sky_8 : decode cX5_sky 8 = .ok (.ifCond .eq 12, 3) := by decide +kernel
theorem dX5_sky_11 : decode cX5_sky 11 = .ok (.iload_n 2, 1) := by decide +kernel
theorem dX5_sky_12 : decode cX5_sky 12 = .ok (.iconst 0, 1) := by decide +kernel
theorem dX5_sky_13 : decode cX5_sky 13 = .ok (.iconst 1, 1) := by decide +kernel
theorem dX5_sky_14 : decode cX5_sky 14 = .ok (.invokestatic 100, 3) := by decide +kernel
theorem dX5_sky_17 : decode cX5_sky 17 = .ok (.ifCond .ne 5, 3) := by decide +kernel
theorem dX5_sky_20 : decode cX5_sky 20 = .ok (.iconst (-1), 1) := by decide +kernel
theorem dX5_sky_21 : decode cX5_sky 21 = .ok (.ireturn, 1) := by decide +kernel
theorem dX5_sky_22 : decode cX5_sky 22 = .ok (.aload_n 0, 1) := by decide +kernel
theorem dX5_sky_23 : decode cX5_sky 23 = .ok (.getfield 39, 3) := by decide +kernel
theorem dX5_sky_26 : decode cX5_sky 26 = .ok (.aload_n 0, 1) := by decide +kernel
theorem dX5_sky_27 : decode cX5_sky 27 = .ok (.getfield 19, 3) := by decide +kernel
theorem dX5_sky_30 : decode cX5_sky 30 = .ok (.aload_n 0, 1) := by decide +kernel
theorem dX5_sky_31 : decode cX5_sky 31 = .ok (.getfield 26, 3) := by decide +kernel
theorem dX5_sky_34 : decode cX5_sky 34 = .ok (.invokevirtual 113, 3) := by decide +kernel
theorem dX5_sky_37 : decode cX5_sky 37 = .ok (.aload_n 0, 1) := by decide +kernel
theorem dX5_sky_38 : decode cX5_sky 38 = .ok (.getfield 39, 3) := by decide +kernel
theorem dX5_sky_41 : decode cX5_sky 41 = .ok (.iload_n 1, 1) := by decide +kernel
theorem dX5_sky_42 : decode cX5_sky 42 = .ok (.invokevirtual 117, 3) := by decide +kernel
theorem dX5_sky_45 : decode cX5_sky 45 = .ok (.bipush (-4), 2) := by decide +kernel
theorem dX5_sky_47 : decode cX5_sky 47 = .ok (.if_icmp .ne 6, 3) := by decide +kernel
theorem dX5_sky_50 : decode cX5_sky 50 = .ok (.bipush (-4), 2) := by decide +kernel
theorem dX5_sky_52 : decode cX5_sky 52 = .ok (.ireturn, 1) := by decide +kernel
theorem dX5_sky_53 : decode cX5_sky 53 = .ok (.aload_n 0, 1) := by decide +kernel
theorem dX5_sky_54 : decode cX5_sky 54 = .ok (.getfield 39, 3) := by decide +kernel
theorem dX5_sky_57 : decode cX5_sky 57 = .ok (.iload_n 1, 1) := by decide +kernel
theorem dX5_sky_58 : decode cX5_sky 58 = .ok (.invokevirtual 121, 3) := by decide +kernel
theorem dX5_sky_61 : decode cX5_sky 61 = .ok (.aload_n 0, 1) := by decide +kernel
theorem dX5_sky_62 : decode cX5_sky 62 = .ok (.getfield 26, 3) := by decide +kernel
theorem dX5_sky_65 : decode cX5_sky 65 = .ok (.aload_n 0, 1) := by decide +kernel
theorem dX5_sky_66 : decode cX5_sky 66 = .ok (.getfield 19, 3) := by decide +kernel
theorem dX5_sky_69 : decode cX5_sky 69 = .ok (.invokevirtual 203, 3) := by decide +kernel
theorem dX5_sky_72 : decode cX5_sky 72 = .ok (.iload_n 2, 1) := by decide +kernel
theorem dX5_sky_73 : decode cX5_sky 73 = .ok (.invokestatic 206, 3) := by decide +kernel
theorem dX5_sky_76 : decode cX5_sky 76 = .ok (.ireturn, 1) := by decide +kernel
theorem dX5_sun_0 : decode cX5_sun 0 = .ok (.aload_n 0, 1) := by decide +kernel
theorem dX5_sun_1 : decode cX5_sun 1 = .ok (.getfield 19, 3) := by decide +kernel
theorem dX5_sun_4 : decode cX5_sun 4 = .ok (.iload_n 1, 1) := by decide +kernel
theorem dX5_sun_5 : decode cX5_sun 5 = .ok (.invokevirtual 96, 3) := by decide +kernel
theorem dX5_sun_8 : decode cX5_sun 8 = .ok (.ifCond .eq 33, 3) := by decide +kernel
theorem dX5_sun_11 : decode cX5_sun 11 = .ok (.iload_n 2, 1) := by decide +kernel
theorem dX5_sun_12 : decode cX5_sun 12 = .ok (.iconst 0, 1) := by decide +kernel
theorem dX5_sun_13 : decode cX5_sun 13 = .ok (.bipush 6, 2) := by decide +kernel
theorem dX5_sun_15 : decode cX5_sun 15 = .ok (.invokestatic 100, 3) := by decide +kernel
theorem dX5_sun_18 : decode cX5_sun 18 = .ok (.ifCond .eq 23, 3) := by decide +kernel
theorem dX5_sun_21 : decode cX5_sun 21 = .ok (.iload_n 3, 1) := by decide +kernel
theorem dX5_sun_22 : decode cX5_sun 22 = .ok (.iconst 0, 1) := by decide +kernel
theorem dX5_sun_23 : decode cX5_sun 23 = .ok (.bipush 10, 2) := by decide +kernel
theorem dX5_sun_25 : decode cX5_sun 25 = .ok (.invokestatic 100, 3) := by decide +kernel
theorem dX5_sun_28 : decode cX5_sun 28 = .ok (.ifCond .eq 13, 3) := by decide +kernel
theorem dX5_sun_31 : decode cX5_sun 31 = .ok (.iload 4, 2) := by decide +kernel
theorem dX5_sun_33 : decode cX5_sun 33 = .ok (.iconst 0, 1) := by decide +kernel
theorem dX5_sun_34 : decode cX5_sun 34 = .ok (.iconst 1, 1) := by decide +kernel
theorem dX5_sun_35 : decode cX5_sun 35 = .ok (.invokestatic 100, 3) := by decide +kernel
theorem dX5_sun_38 : decode cX5_sun 38 = .ok (.ifCond .ne 5, 3) := by decide +kernel
theorem dX5_sun_41 : decode cX5_sun 41 = .ok (.iconst (-1), 1) := by decide +kernel
theorem dX5_sun_42 : decode cX5_sun 42 = .ok (.ireturn, 1) := by decide +kernel
theorem dX5_sun_43 : decode cX5_sun 43 = .ok (.aload_n 0, 1) := by decide +kernel
theorem dX5_sun_44 : decode cX5_sun 44 = .ok (.iload_n 1, 1) := by decide +kernel
theorem dX5_sun_45 : decode cX5_sun 45 = .ok (.iload_n 2, 1) := by decide +kernel
theorem dX5_sun_46 : decode cX5_sun 46 = .ok (.invokevirtual 210, 3) := by decide +kernel
theorem dX5_sun_49 : decode cX5_sun 49 = .ok (.istore 5, 2) := by decide +kernel
theorem dX5_sun_51 : decode cX5_sun 51 = .ok (.iconst 0, 1) := by decide +kernel
theorem dX5_sun_52 : decode cX5_sun 52 = .ok (.istore 6, 2) := by decide +kernel
theorem dX5_sun_54 : decode cX5_sun 54 = .ok (.iconst 0, 1) := by decide +kernel
theorem dX5_sun_55 : decode cX5_sun 55 = .ok (.istore 7, 2) := by decide +kernel
theorem dX5_sun_57 : decode cX5_sun 57 = .ok (.iload 7, 2) := by decide +kernel
theorem dX5_sun_59 : decode cX5_sun 59 = .ok (.iconst 1, 1) := by decide +kernel
theorem dX5_sun_60 : decode cX5_sun 60 = .ok (.iload_n 2, 1) := by decide +kernel
theorem dX5_sun_61 : decode cX5_sun 61 = .ok (.ishl, 1) := by decide +kernel
theorem dX5_sun_62 : decode cX5_sun 62 = .ok (.if_icmp .ge 50, 3) := by decide +kernel
theorem dX5_sun_65 : decode cX5_sun 65 = .ok (.iload 7, 2) := by decide +kernel
theorem dX5_sun_67 : decode cX5_sun 67 = .ok (.invokestatic 214, 3) := by decide +kernel
theorem dX5_sun_70 : decode cX5_sun 70 = .ok (.istore 8, 2) := by decide +kernel
theorem dX5_sun_72 : decode cX5_sun 72 = .ok (.iload 5, 2) := by decide +kernel
theorem dX5_sun_74 : decode cX5_sun 74 = .ok (.iload 8, 2) := by decide +kernel
theorem dX5_sun_76 : decode cX5_sun 76 = .ok (.ishr, 1) := by decide +kernel
theorem dX5_sun_77 : decode cX5_sun 77 = .ok (.iconst 1, 1) := by decide +kernel
theorem dX5_sun_78 : decode cX5_sun 78 = .ok (.iand, 1) := by decide +kernel
theorem dX5_sun_79 : decode cX5_sun 79 = .ok (.iconst 1, 1) := by decide +kernel
theorem dX5_sun_80 : decode cX5_sun 80 = .ok (.if_icmp .ne 26, 3) := by decide +kernel
theorem dX5_sun_83 : decode cX5_sun 83 = .ok (.iload 6, 2) := by decide +kernel
theorem dX5_sun_85 : decode cX5_sun 85 = .ok (.iload_n 3, 1) := by decide +kernel
theorem dX5_sun_86 : decode cX5_sun 86 = .ok (.iload 8, 2) := by decide +kernel
theorem dX5_sun_88 : decode cX5_sun 88 = .ok (.invokestatic 219, 3) := by decide +kernel
theorem dX5_sun_91 : decode cX5_sun 91 = .ok (.bipush 10, 2) := by decide +kernel
theorem dX5_sun_93 : decode cX5_sun 93 = .ok (.iload_n 3, 1) := by decide +kernel
theorem dX5_sun_94 : decode cX5_sun 94 = .ok (.isub, 1) := by decide +kernel
theorem dX5_sun_95 : decode cX5_sun 95 = .ok (.iload_n 2, 1) := by decide +kernel
theorem dX5_sun_96 : decode cX5_sun 96 = .ok (.iload 8, 2) := by decide +kernel
theorem dX5_sun_98 : decode cX5_sun 98 = .ok (.isub, 1) := by decide +kernel
theorem dX5_sun_99 : decode cX5_sun 99 = .ok (.invokestatic 219, 3) := by decide +kernel
theorem dX5_sun_102 : decode cX5_sun 102 = .ok (.imul, 1) := by decide +kernel
theorem dX5_sun_103 : decode cX5_sun 103 = .ok (.iadd, 1) := by decide +kernel
theorem dX5_sun_104 : decode cX5_sun 104 = .ok (.istore 6, 2) := by decide +kernel
theorem dX5_sun_106 : decode cX5_sun 106 = .ok (.iinc 7 1, 3) := by decide +kernel
theorem dX5_sun_109 : decode cX5_sun 109 = .ok (.goto (-52), 3) := by decide +kernel
theorem dX5_sun_112 : decode cX5_sun 112 = .ok (.iload 6, 2) := by decide +kernel
theorem dX5_sun_114 : decode cX5_sun 114 = .ok (.bipush 10, 2) := by decide +kernel
theorem dX5_sun_116 : decode cX5_sun 116 = .ok (.iload_n 2, 1) := by decide +kernel
theorem dX5_sun_117 : decode cX5_sun 117 = .ok (.invokestatic 219, 3) := by decide +kernel
theorem dX5_sun_120 : decode cX5_sun 120 = .ok (.iload 4, 2) := by decide +kernel
theorem dX5_sun_122 : decode cX5_sun 122 = .ok (.invokestatic 206, 3) := by decide +kernel
theorem dX5_sun_125 : decode cX5_sun 125 = .ok (.ireturn, 1) := by decide +kernel
theorem dX5_year_0 : decode cX5_year 0 = .ok (.iload_n 1, 1) := by decide +kernel
theorem dX5_year_1 : decode cX5_year 1 = .ok (.iconst 0, 1) := by decide +kernel
theorem dX5_year_2 : decode cX5_year 2 = .ok (.sipush 9999, 3) := by decide +kernel
theorem dX5_year_5 : decode cX5_year 5 = .ok (.invokestatic 100, 3) := by decide +kernel
theorem dX5_year_8 : decode cX5_year 8 = .ok (.ifCond .eq 22, 3) := by decide +kernel
theorem dX5_year_11 : decode cX5_year 11 = .ok (.iload_n 2, 1) := by decide +kernel
theorem dX5_year_12 : decode cX5_year 12 = .ok (.iconst 1, 1) := by decide +kernel
theorem dX5_year_13 : decode cX5_year 13 = .ok (.bipush 30, 2) := by decide +kernel
theorem dX5_year_15 : decode cX5_year 15 = .ok (.invokestatic 100, 3) := by decide +kernel
theorem dX5_year_18 : decode cX5_year 18 = .ok (.ifCond .eq 12, 3) := by decide +kernel
theorem dX5_year_21 : decode cX5_year 21 = .ok (.iload_n 3, 1) := by decide +kernel
theorem dX5_year_22 : decode cX5_year 22 = .ok (.iconst 0, 1) := by decide +kernel
theorem dX5_year_23 : decode cX5_year 23 = .ok (.iconst 1, 1) := by decide +kernel
theorem dX5_year_24 : decode cX5_year 24 = .ok (.invokestatic 100, 3) := by decide +kernel
theorem dX5_year_27 : decode cX5_year 27 = .ok (.ifCond .ne 5, 3) := by decide +kernel
theorem dX5_year_30 : decode cX5_year 30 = .ok (.iconst (-1), 1) := by decide +kernel
theorem dX5_year_31 : decode cX5_year 31 = .ok (.ireturn, 1) := by decide +kernel
theorem dX5_year_32 : decode cX5_year 32 = .ok (.aload_n 0, 1) := by decide +kernel
theorem dX5_year_33 : decode cX5_year 33 = .ok (.getfield 33, 3) := by decide +kernel
theorem dX5_year_36 : decode cX5_year 36 = .ok (.aload_n 0, 1) := by decide +kernel
theorem dX5_year_37 : decode cX5_year 37 = .ok (.getfield 26, 3) := by decide +kernel
theorem dX5_year_40 : decode cX5_year 40 = .ok (.invokevirtual 162, 3) := by decide +kernel
theorem dX5_year_43 : decode cX5_year 43 = .ok (.iconst 0, 1) := by decide +kernel
theorem dX5_year_44 : decode cX5_year 44 = .ok (.istore 4, 2) := by decide +kernel
theorem dX5_year_46 : decode cX5_year 46 = .ok (.iload 4, 2) := by decide +kernel
theorem dX5_year_48 : decode cX5_year 48 = .ok (.iload_n 2, 1) := by decide +kernel
theorem dX5_year_49 : decode cX5_year 49 = .ok (.if_icmp .ge 49, 3) := by decide +kernel
theorem dX5_year_52 : decode cX5_year 52 = .ok (.iload_n 1, 1) := by decide +kernel
theorem dX5_year_53 : decode cX5_year 53 = .ok (.iload 4, 2) := by decide +kernel
theorem dX5_year_55 : decode cX5_year 55 = .ok (.invokestatic 222, 3) := by decide +kernel
theorem dX5_year_58 : decode cX5_year 58 = .ok (.istore 5, 2) := by decide +kernel
theorem dX5_year_60 : decode cX5_year 60 = .ok (.aload_n 0, 1) := by decide +kernel
theorem dX5_year_61 : decode cX5_year 61 = .ok (.getfield 33, 3) := by decide +kernel
theorem dX5_year_64 : decode cX5_year 64 = .ok (.aload_n 0, 1) := by decide +kernel
theorem dX5_year_65 : decode cX5_year 65 = .ok (.getfield 19, 3) := by decide +kernel
theorem dX5_year_68 : decode cX5_year 68 = .ok (.iload 5, 2) := by decide +kernel
theorem dX5_year_70 : decode cX5_year 70 = .ok (.iconst 4, 1) := by decide +kernel
theorem dX5_year_71 : decode cX5_year 71 = .ok (.irem, 1) := by decide +kernel
theorem dX5_year_72 : decode cX5_year 72 = .ok (.invokevirtual 132, 3) := by decide +kernel
theorem dX5_year_75 : decode cX5_year 75 = .ok (.aload_n 0, 1) := by decide +kernel
theorem dX5_year_76 : decode cX5_year 76 = .ok (.getfield 33, 3) := by decide +kernel
theorem dX5_year_79 : decode cX5_year 79 = .ok (.aload_n 0, 1) := by decide +kernel
theorem dX5_year_80 : decode cX5_year 80 = .ok (.getfield 19, 3) := by decide +kernel
theorem dX5_year_83 : decode cX5_year 83 = .ok (.iload 5, 2) := by decide +kernel
theorem dX5_year_85 : decode cX5_year 85 = .ok (.iconst 4, 1) := by decide +kernel
theorem dX5_year_86 : decode cX5_year 86 = .ok (.idiv, 1) := by decide +kernel
theorem dX5_year_87 : decode cX5_year 87 = .ok (.iconst 4, 1) := by decide +kernel
theorem dX5_year_88 : decode cX5_year 88 = .ok (.irem, 1) := by decide +kernel
theorem dX5_year_89 : decode cX5_year 89 = .ok (.invokevirtual 140, 3) := by decide +kernel
theorem dX5_year_92 : decode cX5_year 92 = .ok (.iinc 4 1, 3) := by decide +kernel
theorem dX5_year_95 : decode cX5_year 95 = .ok (.goto (-49), 3) := by decide +kernel
theorem dX5_year_98 : decode cX5_year 98 = .ok (.iload_n 3, 1) := by decide +kernel
theorem dX5_year_99 : decode cX5_year 99 = .ok (.iconst 1, 1) := by decide +kernel
theorem dX5_year_100 : decode cX5_year 100 = .ok (.if_icmp .ne 15, 3) := by decide +kernel
theorem dX5_year_103 : decode cX5_year 103 = .ok (.aload_n 0, 1) := by decide +kernel
theorem dX5_year_104 : decode cX5_year 104 = .ok (.getfield 33, 3) := by decide +kernel
theorem dX5_year_107 : decode cX5_year 107 = .ok (.aload_n 0, 1) := by decide +kernel
theorem dX5_year_108 : decode cX5_year 108 = .ok (.getfield 19, 3) := by decide +kernel
theorem dX5_year_111 : decode cX5_year 111 = .ok (.invokevirtual 136, 3) := by decide +kernel
theorem dX5_year_114 : decode cX5_year 114 = .ok (.ireturn, 1) := by decide +kernel
theorem dX5_year_115 : decode cX5_year 115 = .ok (.aload_n 0, 1) := by decide +kernel
theorem dX5_year_116 : decode cX5_year 116 = .ok (.getfield 39, 3) := by decide +kernel
theorem dX5_year_119 : decode cX5_year 119 = .ok (.aload_n 0, 1) := by decide +kernel
theorem dX5_year_120 : decode cX5_year 120 = .ok (.getfield 19, 3) := by decide +kernel
theorem dX5_year_123 : decode cX5_year 123 = .ok (.aload_n 0, 1) := by decide +kernel
theorem dX5_year_124 : decode cX5_year 124 = .ok (.getfield 33, 3) := by decide +kernel
theorem dX5_year_127 : decode cX5_year 127 = .ok (.invokevirtual 113, 3) := by decide +kernel
theorem dX5_year_130 : decode cX5_year 130 = .ok (.aload_n 0, 1) := by decide +kernel
theorem dX5_year_131 : decode cX5_year 131 = .ok (.getfield 39, 3) := by decide +kernel
theorem dX5_year_134 : decode cX5_year 134 = .ok (.getfield 225, 3) := by decide +kernel
theorem dX5_year_137 : decode cX5_year 137 = .ok (.ireturn, 1) := by decide +kernel
theorem dX5_keep_0 : decode cX5_keep 0 = .ok (.aload_n 0, 1) := by decide +kernel
theorem dX5_keep_1 : decode cX5_keep 1 = .ok (.getfield 50, 3) := by decide +kernel
theorem dX5_keep_4 : decode cX5_keep 4 = .ok (.getfield 156, 3) := by decide +kernel
theorem dX5_keep_7 : decode cX5_keep 7 = .ok (.iconst 2, 1) := by decide +kernel
theorem dX5_keep_8 : decode cX5_keep 8 = .ok (.if_icmp .lt 6, 3) := by decide +kernel
theorem dX5_keep_11 : decode cX5_keep 11 = .ok (.bipush (-3), 2) := by decide +kernel
theorem dX5_keep_13 : decode cX5_keep 13 = .ok (.ireturn, 1) := by decide +kernel
theorem dX5_keep_14 : decode cX5_keep 14 = .ok (.aload_n 0, 1) := by decide +kernel
theorem dX5_keep_15 : decode cX5_keep 15 = .ok (.getfield 50, 3) := by decide +kernel
theorem dX5_keep_18 : decode cX5_keep 18 = .ok (.aload_n 0, 1) := by decide +kernel
theorem dX5_keep_19 : decode cX5_keep 19 = .ok (.getfield 26, 3) := by decide +kernel
theorem dX5_keep_22 : decode cX5_keep 22 = .ok (.invokevirtual 128, 3) := by decide +kernel
theorem dX5_keep_25 : decode cX5_keep 25 = .ok (.aload_n 0, 1) := by decide +kernel
theorem dX5_keep_26 : decode cX5_keep 26 = .ok (.getfield 50, 3) := by decide +kernel
theorem dX5_keep_29 : decode cX5_keep 29 = .ok (.getfield 156, 3) := by decide +kernel
theorem dX5_keep_32 : decode cX5_keep 32 = .ok (.ireturn, 1) := by decide +kernel
theorem dX5_back_0 : decode cX5_back 0 = .ok (.aload_n 0, 1) := by decide +kernel
theorem dX5_back_1 : decode cX5_back 1 = .ok (.getfield 50, 3) := by decide +kernel
theorem dX5_back_4 : decode cX5_back 4 = .ok (.getfield 156, 3) := by decide +kernel
theorem dX5_back_7 : decode cX5_back 7 = .ok (.ifCond .ne 6, 3) := by decide +kernel
theorem dX5_back_10 : decode cX5_back 10 = .ok (.bipush (-2), 2) := by decide +kernel
theorem dX5_back_12 : decode cX5_back 12 = .ok (.ireturn, 1) := by decide +kernel
theorem dX5_back_13 : decode cX5_back 13 = .ok (.aload_n 0, 1) := by decide +kernel
theorem dX5_back_14 : decode cX5_back 14 = .ok (.getfield 50, 3) := by decide +kernel
theorem dX5_back_17 : decode cX5_back 17 = .ok (.aload_n 0, 1) := by decide +kernel
theorem dX5_back_18 : decode cX5_back 18 = .ok (.getfield 26, 3) := by decide +kernel
theorem dX5_back_21 : decode cX5_back 21 = .ok (.invokevirtual 159, 3) := by decide +kernel
theorem dX5_back_24 : decode cX5_back 24 = .ok (.aload_n 0, 1) := by decide +kernel
theorem dX5_back_25 : decode cX5_back 25 = .ok (.getfield 46, 3) := by decide +kernel
theorem dX5_back_28 : decode cX5_back 28 = .ok (.iconst 0, 1) := by decide +kernel
theorem dX5_back_29 : decode cX5_back 29 = .ok (.putfield 156, 3) := by decide +kernel
theorem dX5_back_32 : decode cX5_back 32 = .ok (.aload_n 0, 1) := by decide +kernel
theorem dX5_back_33 : decode cX5_back 33 = .ok (.getfield 50, 3) := by decide +kernel
theorem dX5_back_36 : decode cX5_back 36 = .ok (.getfield 156, 3) := by decide +kernel
theorem dX5_back_39 : decode cX5_back 39 = .ok (.ireturn, 1) := by decide +kernel
theorem dX5_count_0 : decode cX5_count 0 = .ok (.iload_n 1, 1) := by decide +kernel
theorem dX5_count_1 : decode cX5_count 1 = .ok (.tableswitch 155 0 9 #[55, 63, 71, 83, 106, 118, 126, 131, 139, 147], 55) := by decide +kernel
theorem dX5_count_56 : decode cX5_count 56 = .ok (.aload_n 0, 1) := by decide +kernel
theorem dX5_count_57 : decode cX5_count 57 = .ok (.getfield 19, 3) := by decide +kernel
theorem dX5_count_60 : decode cX5_count 60 = .ok (.getfield 93, 3) := by decide +kernel
theorem dX5_count_63 : decode cX5_count 63 = .ok (.ireturn, 1) := by decide +kernel
theorem dX5_count_64 : decode cX5_count 64 = .ok (.aload_n 0, 1) := by decide +kernel
theorem dX5_count_65 : decode cX5_count 65 = .ok (.getfield 19, 3) := by decide +kernel
theorem dX5_count_68 : decode cX5_count 68 = .ok (.getfield 226, 3) := by decide +kernel
theorem dX5_count_71 : decode cX5_count 71 = .ok (.ireturn, 1) := by decide +kernel
theorem dX5_count_72 : decode cX5_count 72 = .ok (.aload_n 0, 1) := by decide +kernel
theorem dX5_count_73 : decode cX5_count 73 = .ok (.getfield 26, 3) := by decide +kernel
theorem dX5_count_76 : decode cX5_count 76 = .ok (.aload_n 0, 1) := by decide +kernel
theorem dX5_count_77 : decode cX5_count 77 = .ok (.getfield 19, 3) := by decide +kernel
theorem dX5_count_80 : decode cX5_count 80 = .ok (.invokevirtual 203, 3) := by decide +kernel
theorem dX5_count_83 : decode cX5_count 83 = .ok (.ireturn, 1) := by decide +kernel
theorem dX5_count_84 : decode cX5_count 84 = .ok (.aload_n 0, 1) := by decide +kernel
theorem dX5_count_85 : decode cX5_count 85 = .ok (.getfield 39, 3) := by decide +kernel
theorem dX5_count_88 : decode cX5_count 88 = .ok (.aload_n 0, 1) := by decide +kernel
theorem dX5_count_89 : decode cX5_count 89 = .ok (.getfield 19, 3) := by decide +kernel
theorem dX5_count_92 : decode cX5_count 92 = .ok (.aload_n 0, 1) := by decide +kernel
theorem dX5_count_93 : decode cX5_count 93 = .ok (.getfield 26, 3) := by decide +kernel
theorem dX5_count_96 : decode cX5_count 96 = .ok (.invokevirtual 113, 3) := by decide +kernel
theorem dX5_count_99 : decode cX5_count 99 = .ok (.aload_n 0, 1) := by decide +kernel
theorem dX5_count_100 : decode cX5_count 100 = .ok (.getfield 39, 3) := by decide +kernel
theorem dX5_count_103 : decode cX5_count 103 = .ok (.getfield 225, 3) := by decide +kernel
theorem dX5_count_106 : decode cX5_count 106 = .ok (.ireturn, 1) := by decide +kernel
theorem dX5_count_107 : decode cX5_count 107 = .ok (.aload_n 0, 1) := by decide +kernel
theorem dX5_count_108 : decode cX5_count 108 = .ok (.getfield 26, 3) := by decide +kernel
theorem dX5_count_111 : decode cX5_count 111 = .ok (.aload_n 0, 1) := by decide +kernel
theorem dX5_count_112 : decode cX5_count 112 = .ok (.getfield 19, 3) := by decide +kernel
theorem dX5_count_115 : decode cX5_count 115 = .ok (.invokevirtual 136, 3) := by decide +kernel
theorem dX5_count_118 : decode cX5_count 118 = .ok (.ireturn, 1) := by decide +kernel
theorem dX5_count_119 : decode cX5_count 119 = .ok (.aload_n 0, 1) := by decide +kernel
theorem dX5_count_120 : decode cX5_count 120 = .ok (.getfield 26, 3) := by decide +kernel
theorem dX5_count_123 : decode cX5_count 123 = .ok (.getfield 143, 3) := by decide +kernel
theorem dX5_count_126 : decode cX5_count 126 = .ok (.ireturn, 1) := by decide +kernel
theorem dX5_count_127 : decode cX5_count 127 = .ok (.aload_n 0, 1) := by decide +kernel
theorem dX5_count_128 : decode cX5_count 128 = .ok (.getfield 60, 3) := by decide +kernel
theorem dX5_count_131 : decode cX5_count 131 = .ok (.ireturn, 1) := by decide +kernel
theorem dX5_count_132 : decode cX5_count 132 = .ok (.aload_n 0, 1) := by decide +kernel
theorem dX5_count_133 : decode cX5_count 133 = .ok (.getfield 46, 3) := by decide +kernel
theorem dX5_count_136 : decode cX5_count 136 = .ok (.getfield 156, 3) := by decide +kernel
theorem dX5_count_139 : decode cX5_count 139 = .ok (.ireturn, 1) := by decide +kernel
theorem dX5_count_140 : decode cX5_count 140 = .ok (.aload_n 0, 1) := by decide +kernel
theorem dX5_count_141 : decode cX5_count 141 = .ok (.getfield 50, 3) := by decide +kernel
theorem dX5_count_144 : decode cX5_count 144 = .ok (.getfield 156, 3) := by decide +kernel
theorem dX5_count_147 : decode cX5_count 147 = .ok (.ireturn, 1) := by decide +kernel
theorem dX5_count_148 : decode cX5_count 148 = .ok (.aload_n 0, 1) := by decide +kernel
theorem dX5_count_149 : decode cX5_count 149 = .ok (.getfield 12, 3) := by decide +kernel
theorem dX5_count_152 : decode cX5_count 152 = .ok (.getfield 87, 3) := by decide +kernel
theorem dX5_count_155 : decode cX5_count 155 = .ok (.ireturn, 1) := by decide +kernel
theorem dX5_count_156 : decode cX5_count 156 = .ok (.iconst (-1), 1) := by decide +kernel
theorem dX5_count_157 : decode cX5_count 157 = .ok (.ireturn, 1) := by decide +kernel
theorem dX5_isFrom_0 : decode cX5_isFrom 0 = .ok (.iload_n 0, 1) := by decide +kernel
theorem dX5_isFrom_1 : decode cX5_isFrom 1 = .ok (.iload_n 1, 1) := by decide +kernel
theorem dX5_isFrom_2 : decode cX5_isFrom 2 = .ok (.if_icmp .lt 12, 3) := by decide +kernel
theorem dX5_isFrom_5 : decode cX5_isFrom 5 = .ok (.iload_n 0, 1) := by decide +kernel
theorem dX5_isFrom_6 : decode cX5_isFrom 6 = .ok (.iload_n 2, 1) := by decide +kernel
theorem dX5_isFrom_7 : decode cX5_isFrom 7 = .ok (.if_icmp .gt 7, 3) := by decide +kernel
theorem dX5_isFrom_10 : decode cX5_isFrom 10 = .ok (.iconst 1, 1) := by decide +kernel
theorem dX5_isFrom_11 : decode cX5_isFrom 11 = .ok (.goto 4, 3) := by decide +kernel
theorem dX5_isFrom_14 : decode cX5_isFrom 14 = .ok (.iconst 0, 1) := by decide +kernel
theorem dX5_isFrom_15 : decode cX5_isFrom 15 = .ok (.ireturn, 1) := by decide +kernel
theorem dX5_areTwo_0 : decode cX5_areTwo 0 = .ok (.aload_n 0, 1) := by decide +kernel
theorem dX5_areTwo_1 : decode cX5_areTwo 1 = .ok (.getfield 19, 3) := by decide +kernel
theorem dX5_areTwo_4 : decode cX5_areTwo 4 = .ok (.iload_n 1, 1) := by decide +kernel
theorem dX5_areTwo_5 : decode cX5_areTwo 5 = .ok (.invokevirtual 96, 3) := by decide +kernel
theorem dX5_areTwo_8 : decode cX5_areTwo 8 = .ok (.ifCond .eq 23, 3) := by decide +kernel
theorem dX5_areTwo_11 : decode cX5_areTwo 11 = .ok (.aload_n 0, 1) := by decide +kernel
theorem dX5_areTwo_12 : decode cX5_areTwo 12 = .ok (.getfield 19, 3) := by decide +kernel
theorem dX5_areTwo_15 : decode cX5_areTwo 15 = .ok (.iload_n 2, 1) := by decide +kernel
theorem dX5_areTwo_16 : decode cX5_areTwo 16 = .ok (.invokevirtual 96, 3) := by decide +kernel
theorem dX5_areTwo_19 : decode cX5_areTwo 19 = .ok (.ifCond .eq 12, 3) := by decide +kernel
theorem dX5_areTwo_22 : decode cX5_areTwo 22 = .ok (.iload_n 1, 1) := by decide +kernel
theorem dX5_areTwo_23 : decode cX5_areTwo 23 = .ok (.iload_n 2, 1) := by decide +kernel
theorem dX5_areTwo_24 : decode cX5_areTwo 24 = .ok (.if_icmp .eq 7, 3) := by decide +kernel
theorem dX5_areTwo_27 : decode cX5_areTwo 27 = .ok (.iconst 1, 1) := by decide +kernel
theorem dX5_areTwo_28 : decode cX5_areTwo 28 = .ok (.goto 4, 3) := by decide +kernel
theorem dX5_areTwo_31 : decode cX5_areTwo 31 = .ok (.iconst 0, 1) := by decide +kernel
theorem dX5_areTwo_32 : decode cX5_areTwo 32 = .ok (.ireturn, 1) := by decide +kernel
theorem dX5_layText_0 : decode cX5_layText 0 = .ok (.aload_n 0, 1) := by decide +kernel
theorem dX5_layText_1 : decode cX5_layText 1 = .ok (.getfield 12, 3) := by decide +kernel
theorem dX5_layText_4 : decode cX5_layText 4 = .ok (.aload_n 0, 1) := by decide +kernel
theorem dX5_layText_5 : decode cX5_layText 5 = .ok (.getfield 30, 3) := by decide +kernel
theorem dX5_layText_8 : decode cX5_layText 8 = .ok (.aload_n 0, 1) := by decide +kernel
theorem dX5_layText_9 : decode cX5_layText 9 = .ok (.getfield 33, 3) := by decide +kernel
theorem dX5_layText_12 : decode cX5_layText 12 = .ok (.invokevirtual 89, 3) := by decide +kernel
theorem dX5_layText_15 : decode cX5_layText 15 = .ok (.bipush (-4), 2) := by decide +kernel
theorem dX5_layText_17 : decode cX5_layText 17 = .ok (.if_icmp .eq 5, 3) := by decide +kernel
theorem dX5_layText_20 : decode cX5_layText 20 = .ok (.iconst 0, 1) := by decide +kernel
theorem dX5_layText_21 : decode cX5_layText 21 = .ok (.ireturn, 1) := by decide +kernel
theorem dX5_layText_22 : decode cX5_layText 22 = .ok (.aload_n 0, 1) := by decide +kernel
theorem dX5_layText_23 : decode cX5_layText 23 = .ok (.getfield 19, 3) := by decide +kernel
theorem dX5_layText_26 : decode cX5_layText 26 = .ok (.aload_n 0, 1) := by decide +kernel
theorem dX5_layText_27 : decode cX5_layText 27 = .ok (.getfield 30, 3) := by decide +kernel
theorem dX5_layText_30 : decode cX5_layText 30 = .ok (.invokevirtual 193, 3) := by decide +kernel
theorem dX5_layText_33 : decode cX5_layText 33 = .ok (.aload_n 0, 1) := by decide +kernel
theorem dX5_layText_34 : decode cX5_layText 34 = .ok (.getfield 26, 3) := by decide +kernel
theorem dX5_layText_37 : decode cX5_layText 37 = .ok (.aload_n 0, 1) := by decide +kernel
theorem dX5_layText_38 : decode cX5_layText 38 = .ok (.getfield 33, 3) := by decide +kernel
theorem dX5_layText_41 : decode cX5_layText 41 = .ok (.invokevirtual 162, 3) := by decide +kernel
theorem dX5_layText_44 : decode cX5_layText 44 = .ok (.aload_n 0, 1) := by decide +kernel
theorem dX5_layText_45 : decode cX5_layText 45 = .ok (.getfield 26, 3) := by decide +kernel
theorem dX5_layText_48 : decode cX5_layText 48 = .ok (.aload_n 0, 1) := by decide +kernel
theorem dX5_layText_49 : decode cX5_layText 49 = .ok (.getfield 19, 3) := by decide +kernel
theorem dX5_layText_52 : decode cX5_layText 52 = .ok (.invokevirtual 152, 3) := by decide +kernel
theorem dX5_layText_55 : decode cX5_layText 55 = .ok (.aload_n 0, 1) := by decide +kernel
theorem dX5_layText_56 : decode cX5_layText 56 = .ok (.iconst 0, 1) := by decide +kernel
theorem dX5_layText_57 : decode cX5_layText 57 = .ok (.putfield 60, 3) := by decide +kernel
theorem dX5_layText_60 : decode cX5_layText 60 = .ok (.aload_n 0, 1) := by decide +kernel
theorem dX5_layText_61 : decode cX5_layText 61 = .ok (.getfield 46, 3) := by decide +kernel
theorem dX5_layText_64 : decode cX5_layText 64 = .ok (.iconst 0, 1) := by decide +kernel
theorem dX5_layText_65 : decode cX5_layText 65 = .ok (.putfield 156, 3) := by decide +kernel
theorem dX5_layText_68 : decode cX5_layText 68 = .ok (.aload_n 0, 1) := by decide +kernel
theorem dX5_layText_69 : decode cX5_layText 69 = .ok (.getfield 50, 3) := by decide +kernel
theorem dX5_layText_72 : decode cX5_layText 72 = .ok (.iconst 0, 1) := by decide +kernel
theorem dX5_layText_73 : decode cX5_layText 73 = .ok (.putfield 156, 3) := by decide +kernel
theorem dX5_layText_76 : decode cX5_layText 76 = .ok (.iconst 1, 1) := by decide +kernel
theorem dX5_layText_77 : decode cX5_layText 77 = .ok (.ireturn, 1) := by decide +kernel
theorem dX5_apartBehindRain_0 : decode cX5_apartBehindRain 0 = .ok (.aload_n 0, 1) := by decide +kernel
theorem dX5_apartBehindRain_1 : decode cX5_apartBehindRain 1 = .ok (.getfield 33, 3) := by decide +kernel
theorem dX5_apartBehindRain_4 : decode cX5_apartBehindRain 4 = .ok (.aload_n 0, 1) := by decide +kernel
theorem dX5_apartBehindRain_5 : decode cX5_apartBehindRain 5 = .ok (.getfield 26, 3) := by decide +kernel
theorem dX5_apartBehindRain_8 : decode cX5_apartBehindRain 8 = .ok (.invokevirtual 162, 3) := by decide +kernel
theorem dX5_apartBehindRain_11 : decode cX5_apartBehindRain 11 = .ok (.aload_n 0, 1) := by decide +kernel
theorem dX5_apartBehindRain_12 : decode cX5_apartBehindRain 12 = .ok (.getfield 33, 3) := by decide +kernel
theorem dX5_apartBehindRain_15 : decode cX5_apartBehindRain 15 = .ok (.aload_n 1, 1) := by decide +kernel
theorem dX5_apartBehindRain_16 : decode cX5_apartBehindRain 16 = .ok (.iload 4, 2) := by decide +kernel
theorem dX5_apartBehindRain_18 : decode cX5_apartBehindRain 18 = .ok (.invokevirtual 132, 3) := by decide +kernel
theorem dX5_apartBehindRain_21 : decode cX5_apartBehindRain 21 = .ok (.aload_n 0, 1) := by decide +kernel
theorem dX5_apartBehindRain_22 : decode cX5_apartBehindRain 22 = .ok (.getfield 39, 3) := by decide +kernel
theorem dX5_apartBehindRain_25 : decode cX5_apartBehindRain 25 = .ok (.aload_n 1, 1) := by decide +kernel
theorem dX5_apartBehindRain_26 : decode cX5_apartBehindRain 26 = .ok (.aload_n 0, 1) := by decide +kernel
theorem dX5_apartBehindRain_27 : decode cX5_apartBehindRain 27 = .ok (.getfield 33, 3) := by decide +kernel
theorem dX5_apartBehindRain_30 : decode cX5_apartBehindRain 30 = .ok (.invokevirtual 113, 3) := by decide +kernel
theorem dX5_apartBehindRain_33 : decode cX5_apartBehindRain 33 = .ok (.aload_n 0, 1) := by decide +kernel
theorem dX5_apartBehindRain_34 : decode cX5_apartBehindRain 34 = .ok (.getfield 39, 3) := by decide +kernel
theorem dX5_apartBehindRain_37 : decode cX5_apartBehindRain 37 = .ok (.iload_n 2, 1) := by decide +kernel
theorem dX5_apartBehindRain_38 : decode cX5_apartBehindRain 38 = .ok (.iload_n 3, 1) := by decide +kernel
theorem dX5_apartBehindRain_39 : decode cX5_apartBehindRain 39 = .ok (.invokevirtual 179, 3) := by decide +kernel
theorem dX5_apartBehindRain_42 : decode cX5_apartBehindRain 42 = .ok (.ireturn, 1) := by decide +kernel
theorem dX5_mayBeKerb_0 : decode cX5_mayBeKerb 0 = .ok (.aload_n 0, 1) := by decide +kernel
theorem dX5_mayBeKerb_1 : decode cX5_mayBeKerb 1 = .ok (.getfield 19, 3) := by decide +kernel
theorem dX5_mayBeKerb_4 : decode cX5_mayBeKerb 4 = .ok (.iload_n 1, 1) := by decide +kernel
theorem dX5_mayBeKerb_5 : decode cX5_mayBeKerb 5 = .ok (.invokevirtual 96, 3) := by decide +kernel
theorem dX5_mayBeKerb_8 : decode cX5_mayBeKerb 8 = .ok (.ifCond .eq 42, 3) := by decide +kernel
theorem dX5_mayBeKerb_11 : decode cX5_mayBeKerb 11 = .ok (.iload_n 1, 1) := by decide +kernel
theorem dX5_mayBeKerb_12 : decode cX5_mayBeKerb 12 = .ok (.iload_n 2, 1) := by decide +kernel
theorem dX5_mayBeKerb_13 : decode cX5_mayBeKerb 13 = .ok (.if_icmp .eq 37, 3) := by decide +kernel
theorem dX5_mayBeKerb_16 : decode cX5_mayBeKerb 16 = .ok (.iload_n 1, 1) := by decide +kernel
theorem dX5_mayBeKerb_17 : decode cX5_mayBeKerb 17 = .ok (.iload_n 3, 1) := by decide +kernel
theorem dX5_mayBeKerb_18 : decode cX5_mayBeKerb 18 = .ok (.if_icmp .eq 32, 3) := by decide +kernel
theorem dX5_mayBeKerb_21 : decode cX5_mayBeKerb 21 = .ok (.aload_n 0, 1) := by decide +kernel
theorem dX5_mayBeKerb_22 : decode cX5_mayBeKerb 22 = .ok (.getfield 19, 3) := by decide +kernel
theorem dX5_mayBeKerb_25 : decode cX5_mayBeKerb 25 = .ok (.getfield 107, 3) := by decide +kernel
theorem dX5_mayBeKerb_28 : decode cX5_mayBeKerb 28 = .ok (.iload_n 1, 1) := by decide +kernel
theorem dX5_mayBeKerb_29 : decode cX5_mayBeKerb 29 = .ok (.iaload, 1) := by decide +kernel
theorem dX5_mayBeKerb_30 : decode cX5_mayBeKerb 30 = .ok (.iconst 3, 1) := by decide +kernel
theorem dX5_mayBeKerb_31 : decode cX5_mayBeKerb 31 = .ok (.if_icmp .eq 19, 3) := by decide +kernel
theorem dX5_mayBeKerb_34 : decode cX5_mayBeKerb 34 = .ok (.aload_n 0, 1) := by decide +kernel
theorem dX5_mayBeKerb_35 : decode cX5_mayBeKerb 35 = .ok (.getfield 26, 3) := by decide +kernel
theorem dX5_mayBeKerb_38 : decode cX5_mayBeKerb 38 = .ok (.getfield 110, 3) := by decide +kernel
theorem dX5_mayBeKerb_41 : decode cX5_mayBeKerb 41 = .ok (.iload_n 1, 1) := by decide +kernel
theorem dX5_mayBeKerb_42 : decode cX5_mayBeKerb 42 = .ok (.iaload, 1) := by decide +kernel
theorem dX5_mayBeKerb_43 : decode cX5_mayBeKerb 43 = .ok (.ifCond .ne 7, 3) := by decide +kernel
theorem dX5_mayBeKerb_46 : decode cX5_mayBeKerb 46 = .ok (.iconst 1, 1) := by decide +kernel
theorem dX5_mayBeKerb_47 : decode cX5_mayBeKerb 47 = .ok (.goto 4, 3) := by decide +kernel
theorem dX5_mayBeKerb_50 : decode cX5_mayBeKerb 50 = .ok (.iconst 0, 1) := by decide +kernel
theorem dX5_mayBeKerb_51 : decode cX5_mayBeKerb 51 = .ok (.ireturn, 1) := by decide +kernel
theorem dX5_ringsHold_0 : decode cX5_ringsHold 0 = .ok (.iconst 0, 1) := by decide +kernel
theorem dX5_ringsHold_1 : decode cX5_ringsHold 1 = .ok (.istore_n 1, 1) := by decide +kernel
theorem dX5_ringsHold_2 : decode cX5_ringsHold 2 = .ok (.iload_n 1, 1) := by decide +kernel
theorem dX5_ringsHold_3 : decode cX5_ringsHold 3 = .ok (.aload_n 0, 1) := by decide +kernel
theorem dX5_ringsHold_4 : decode cX5_ringsHold 4 = .ok (.getfield 60, 3) := by decide +kernel
theorem dX5_ringsHold_7 : decode cX5_ringsHold 7 = .ok (.if_icmp .ge 53, 3) := by decide +kernel
theorem dX5_ringsHold_10 : decode cX5_ringsHold 10 = .ok (.iload_n 1, 1) := by decide +kernel
theorem dX5_ringsHold_11 : decode cX5_ringsHold 11 = .ok (.bipush 6, 2) := by decide +kernel
theorem dX5_ringsHold_13 : decode cX5_ringsHold 13 = .ok (.if_icmp .ge 47, 3) := by decide +kernel
theorem dX5_ringsHold_16 : decode cX5_ringsHold 16 = .ok (.aload_n 0, 1) := by decide +kernel
theorem dX5_ringsHold_17 : decode cX5_ringsHold 17 = .ok (.getfield 53, 3) := by decide +kernel
theorem dX5_ringsHold_20 : decode cX5_ringsHold 20 = .ok (.iload_n 1, 1) := by decide +kernel
theorem dX5_ringsHold_21 : decode cX5_ringsHold 21 = .ok (.iaload, 1) := by decide +kernel
theorem dX5_ringsHold_22 : decode cX5_ringsHold 22 = .ok (.istore_n 2, 1) := by decide +kernel
theorem dX5_ringsHold_23 : decode cX5_ringsHold 23 = .ok (.aload_n 0, 1) := by decide +kernel
theorem dX5_ringsHold_24 : decode cX5_ringsHold 24 = .ok (.getfield 19, 3) := by decide +kernel
theorem dX5_ringsHold_27 : decode cX5_ringsHold 27 = .ok (.iload_n 2, 1) := by decide +kernel
theorem dX5_ringsHold_28 : decode cX5_ringsHold 28 = .ok (.invokevirtual 96, 3) := by decide +kernel
theorem dX5_ringsHold_31 : decode cX5_ringsHold 31 = .ok (.ifCond .eq 21, 3) := by decide +kernel
theorem dX5_ringsHold_34 : decode cX5_ringsHold 34 = .ok (.aload_n 0, 1) := by decide +kernel
theorem dX5_ringsHold_35 : decode cX5_ringsHold 35 = .ok (.getfield 33, 3) := by decide +kernel
theorem dX5_ringsHold_38 : decode cX5_ringsHold 38 = .ok (.getfield 110, 3) := by decide +kernel
theorem dX5_ringsHold_41 : decode cX5_ringsHold 41 = .ok (.iload_n 2, 1) := by decide +kernel
theorem dX5_ringsHold_42 : decode cX5_ringsHold 42 = .ok (.iaload, 1) := by decide +kernel
theorem dX5_ringsHold_43 : decode cX5_ringsHold 43 = .ok (.aload_n 0, 1) := by decide +kernel
theorem dX5_ringsHold_44 : decode cX5_ringsHold 44 = .ok (.getfield 57, 3) := by decide +kernel
theorem dX5_ringsHold_47 : decode cX5_ringsHold 47 = .ok (.iload_n 1, 1) := by decide +kernel
theorem dX5_ringsHold_48 : decode cX5_ringsHold 48 = .ok (.iaload, 1) := by decide +kernel
theorem dX5_ringsHold_49 : decode cX5_ringsHold 49 = .ok (.if_icmp .eq 5, 3) := by decide +kernel
theorem dX5_ringsHold_52 : decode cX5_ringsHold 52 = .ok (.iconst 0, 1) := by decide +kernel
theorem dX5_ringsHold_53 : decode cX5_ringsHold 53 = .ok (.ireturn, 1) := by decide +kernel
theorem dX5_ringsHold_54 : decode cX5_ringsHold 54 = .ok (.iinc 1 1, 3) := by decide +kernel
theorem dX5_ringsHold_57 : decode cX5_ringsHold 57 = .ok (.goto (-55), 3) := by decide +kernel
theorem dX5_ringsHold_60 : decode cX5_ringsHold 60 = .ok (.iconst 1, 1) := by decide +kernel
theorem dX5_ringsHold_61 : decode cX5_ringsHold 61 = .ok (.ireturn, 1) := by decide +kernel
theorem dX5_wetBehindHours_0 : decode cX5_wetBehindHours 0 = .ok (.iconst 0, 1) := by decide +kernel
theorem dX5_wetBehindHours_1 : decode cX5_wetBehindHours 1 = .ok (.istore_n 3, 1) := by decide +kernel
theorem dX5_wetBehindHours_2 : decode cX5_wetBehindHours 2 = .ok (.aload_n 0, 1) := by decide +kernel
theorem dX5_wetBehindHours_3 : decode cX5_wetBehindHours 3 = .ok (.getfield 33, 3) := by decide +kernel
theorem dX5_wetBehindHours_6 : decode cX5_wetBehindHours 6 = .ok (.aload_n 0, 1) := by decide +kernel
theorem dX5_wetBehindHours_7 : decode cX5_wetBehindHours 7 = .ok (.getfield 26, 3) := by decide +kernel
theorem dX5_wetBehindHours_10 : decode cX5_wetBehindHours 10 = .ok (.invokevirtual 162, 3) := by decide +kernel
theorem dX5_wetBehindHours_13 : decode cX5_wetBehindHours 13 = .ok (.iconst 0, 1) := by decide +kernel
theorem dX5_wetBehindHours_14 : decode cX5_wetBehindHours 14 = .ok (.istore 4, 2) := by decide +kernel
theorem dX5_wetBehindHours_16 : decode cX5_wetBehindHours 16 = .ok (.iload 4, 2) := by decide +kernel
theorem dX5_wetBehindHours_18 : decode cX5_wetBehindHours 18 = .ok (.iload_n 2, 1) := by decide +kernel
theorem dX5_wetBehindHours_19 : decode cX5_wetBehindHours 19 = .ok (.if_icmp .gt 50, 3) := by decide +kernel
theorem dX5_wetBehindHours_22 : decode cX5_wetBehindHours 22 = .ok (.aload_n 0, 1) := by decide +kernel
theorem dX5_wetBehindHours_23 : decode cX5_wetBehindHours 23 = .ok (.getfield 19, 3) := by decide +kernel
theorem dX5_wetBehindHours_26 : decode cX5_wetBehindHours 26 = .ok (.iload_n 1, 1) := by decide +kernel
theorem dX5_wetBehindHours_27 : decode cX5_wetBehindHours 27 = .ok (.invokevirtual 96, 3) := by decide +kernel
theorem dX5_wetBehindHours_30 : decode cX5_wetBehindHours 30 = .ok (.ifCond .eq 22, 3) := by decide +kernel
theorem dX5_wetBehindHours_33 : decode cX5_wetBehindHours 33 = .ok (.aload_n 0, 1) := by decide +kernel
theorem dX5_wetBehindHours_34 : decode cX5_wetBehindHours 34 = .ok (.getfield 33, 3) := by decide +kernel
theorem dX5_wetBehindHours_37 : decode cX5_wetBehindHours 37 = .ok (.getfield 110, 3) := by decide +kernel
theorem dX5_wetBehindHours_40 : decode cX5_wetBehindHours 40 = .ok (.iload_n 1, 1) := by decide +kernel
theorem dX5_wetBehindHours_41 : decode cX5_wetBehindHours 41 = .ok (.iaload, 1) := by decide +kernel
theorem dX5_wetBehindHours_42 : decode cX5_wetBehindHours 42 = .ok (.ifCond .le 10, 3) := by decide +kernel
theorem dX5_wetBehindHours_45 : decode cX5_wetBehindHours 45 = .ok (.iload_n 3, 1) := by decide +kernel
theorem dX5_wetBehindHours_46 : decode cX5_wetBehindHours 46 = .ok (.iconst 1, 1) := by decide +kernel
theorem dX5_wetBehindHours_47 : decode cX5_wetBehindHours 47 = .ok (.iload 4, 2) := by decide +kernel
theorem dX5_wetBehindHours_49 : decode cX5_wetBehindHours 49 = .ok (.ishl, 1) := by decide +kernel
theorem dX5_wetBehindHours_50 : decode cX5_wetBehindHours 50 = .ok (.ior, 1) := by decide +kernel
theorem dX5_wetBehindHours_51 : decode cX5_wetBehindHours 51 = .ok (.istore_n 3, 1) := by decide +kernel
theorem dX5_wetBehindHours_52 : decode cX5_wetBehindHours 52 = .ok (.aload_n 0, 1) := by decide +kernel
theorem dX5_wetBehindHours_53 : decode cX5_wetBehindHours 53 = .ok (.getfield 33, 3) := by decide +kernel
theorem dX5_wetBehindHours_56 : decode cX5_wetBehindHours 56 = .ok (.aload_n 0, 1) := by decide +kernel
theorem dX5_wetBehindHours_57 : decode cX5_wetBehindHours 57 = .ok (.getfield 19, 3) := by decide +kernel
theorem dX5_wetBehindHours_60 : decode cX5_wetBehindHours 60 = .ok (.invokevirtual 168, 3) := by decide +kernel
theorem dX5_wetBehindHours_63 : decode cX5_wetBehindHours 63 = .ok (.iinc 4 1, 3) := by decide +kernel
theorem dX5_wetBehindHours_66 : decode cX5_wetBehindHours 66 = .ok (.goto (-50), 3) := by decide +kernel
theorem dX5_wetBehindHours_69 : decode cX5_wetBehindHours 69 = .ok (.iload_n 3, 1) := by decide +kernel
theorem dX5_wetBehindHours_70 : decode cX5_wetBehindHours 70 = .ok (.ireturn, 1) := by decide +kernel
theorem dX5_lowestTerms_0 : decode cX5_lowestTerms 0 = .ok (.iload_n 0, 1) := by decide +kernel
theorem dX5_lowestTerms_1 : decode cX5_lowestTerms 1 = .ok (.iload_n 1, 1) := by decide +kernel
theorem dX5_lowestTerms_2 : decode cX5_lowestTerms 2 = .ok (.invokestatic 229, 3) := by decide +kernel
theorem dX5_lowestTerms_5 : decode cX5_lowestTerms 5 = .ok (.istore_n 3, 1) := by decide +kernel
theorem dX5_lowestTerms_6 : decode cX5_lowestTerms 6 = .ok (.iload_n 2, 1) := by decide +kernel
theorem dX5_lowestTerms_7 : decode cX5_lowestTerms 7 = .ok (.ifCond .ne 7, 3) := by decide +kernel
theorem dX5_lowestTerms_10 : decode cX5_lowestTerms 10 = .ok (.iload_n 0, 1) := by decide +kernel
theorem dX5_lowestTerms_11 : decode cX5_lowestTerms 11 = .ok (.goto 4, 3) := by decide +kernel
theorem dX5_lowestTerms_14 : decode cX5_lowestTerms 14 = .ok (.iload_n 1, 1) := by decide +kernel
theorem dX5_lowestTerms_15 : decode cX5_lowestTerms 15 = .ok (.istore 4, 2) := by decide +kernel
theorem dX5_lowestTerms_17 : decode cX5_lowestTerms 17 = .ok (.iload_n 3, 1) := by decide +kernel
theorem dX5_lowestTerms_18 : decode cX5_lowestTerms 18 = .ok (.iconst 1, 1) := by decide +kernel
theorem dX5_lowestTerms_19 : decode cX5_lowestTerms 19 = .ok (.if_icmp .le 10, 3) := by decide +kernel
theorem dX5_lowestTerms_22 : decode cX5_lowestTerms 22 = .ok (.iload 4, 2) := by decide +kernel
theorem dX5_lowestTerms_24 : decode cX5_lowestTerms 24 = .ok (.iload_n 3, 1) := by decide +kernel
theorem dX5_lowestTerms_25 : decode cX5_lowestTerms 25 = .ok (.idiv, 1) := by decide +kernel
theorem dX5_lowestTerms_26 : decode cX5_lowestTerms 26 = .ok (.goto 5, 3) := by decide +kernel
theorem dX5_lowestTerms_29 : decode cX5_lowestTerms 29 = .ok (.iload 4, 2) := by decide +kernel
theorem dX5_lowestTerms_31 : decode cX5_lowestTerms 31 = .ok (.ireturn, 1) := by decide +kernel
theorem dX5_commonDivisor_0 : decode cX5_commonDivisor 0 = .ok (.iconst 0, 1) := by decide +kernel
theorem dX5_commonDivisor_1 : decode cX5_commonDivisor 1 = .ok (.istore_n 2, 1) := by decide +kernel
theorem dX5_commonDivisor_2 : decode cX5_commonDivisor 2 = .ok (.iload_n 2, 1) := by decide +kernel
theorem dX5_commonDivisor_3 : decode cX5_commonDivisor 3 = .ok (.bipush 64, 2) := by decide +kernel
theorem dX5_commonDivisor_5 : decode cX5_commonDivisor 5 = .ok (.if_icmp .ge 21, 3) := by decide +kernel
theorem dX5_commonDivisor_8 : decode cX5_commonDivisor 8 = .ok (.iload_n 1, 1) := by decide +kernel
theorem dX5_commonDivisor_9 : decode cX5_commonDivisor 9 = .ok (.ifCond .eq 17, 3) := by decide +kernel
theorem dX5_commonDivisor_12 : decode cX5_commonDivisor 12 = .ok (.iload_n 0, 1) := by decide +kernel
theorem dX5_commonDivisor_13 : decode cX5_commonDivisor 13 = .ok (.iload_n 1, 1) := by decide +kernel
theorem dX5_commonDivisor_14 : decode cX5_commonDivisor 14 = .ok (.irem, 1) := by decide +kernel
theorem dX5_commonDivisor_15 : decode cX5_commonDivisor 15 = .ok (.istore_n 3, 1) := by decide +kernel
theorem dX5_commonDivisor_16 : decode cX5_commonDivisor 16 = .ok (.iload_n 1, 1) := by decide +kernel
theorem dX5_commonDivisor_17 : decode cX5_commonDivisor 17 = .ok (.istore_n 0, 1) := by decide +kernel
theorem dX5_commonDivisor_18 : decode cX5_commonDivisor 18 = .ok (.iload_n 3, 1) := by decide +kernel
theorem dX5_commonDivisor_19 : decode cX5_commonDivisor 19 = .ok (.istore_n 1, 1) := by decide +kernel
theorem dX5_commonDivisor_20 : decode cX5_commonDivisor 20 = .ok (.iinc 2 1, 3) := by decide +kernel
theorem dX5_commonDivisor_23 : decode cX5_commonDivisor 23 = .ok (.goto (-21), 3) := by decide +kernel
theorem dX5_commonDivisor_26 : decode cX5_commonDivisor 26 = .ok (.iload_n 0, 1) := by decide +kernel
theorem dX5_commonDivisor_27 : decode cX5_commonDivisor 27 = .ok (.ireturn, 1) := by decide +kernel
theorem dX5_power_0 : decode cX5_power 0 = .ok (.iconst 1, 1) := by decide +kernel
theorem dX5_power_1 : decode cX5_power 1 = .ok (.istore_n 2, 1) := by decide +kernel
theorem dX5_power_2 : decode cX5_power 2 = .ok (.iconst 0, 1) := by decide +kernel
theorem dX5_power_3 : decode cX5_power 3 = .ok (.istore_n 3, 1) := by decide +kernel
theorem dX5_power_4 : decode cX5_power 4 = .ok (.iload_n 3, 1) := by decide +kernel
theorem dX5_power_5 : decode cX5_power 5 = .ok (.iload_n 1, 1) := by decide +kernel
theorem dX5_power_6 : decode cX5_power 6 = .ok (.if_icmp .ge 13, 3) := by decide +kernel
theorem dX5_power_9 : decode cX5_power 9 = .ok (.iload_n 2, 1) := by decide +kernel
theorem dX5_power_10 : decode cX5_power 10 = .ok (.iload_n 0, 1) := by decide +kernel
theorem dX5_power_11 : decode cX5_power 11 = .ok (.imul, 1) := by decide +kernel
theorem dX5_power_12 : decode cX5_power 12 = .ok (.istore_n 2, 1) := by decide +kernel
theorem dX5_power_13 : decode cX5_power 13 = .ok (.iinc 3 1, 3) := by decide +kernel
theorem dX5_power_16 : decode cX5_power 16 = .ok (.goto (-12), 3) := by decide +kernel
theorem dX5_power_19 : decode cX5_power 19 = .ok (.iload_n 2, 1) := by decide +kernel
theorem dX5_power_20 : decode cX5_power 20 = .ok (.ireturn, 1) := by decide +kernel
theorem dX5_drawOf_0 : decode cX5_drawOf 0 = .ok (.ldc2_w 232, 3) := by decide +kernel
theorem dX5_drawOf_3 : decode cX5_drawOf 3 = .ok (.iload_n 0, 1) := by decide +kernel
theorem dX5_drawOf_4 : decode cX5_drawOf 4 = .ok (.i2l, 1) := by decide +kernel
theorem dX5_drawOf_5 : decode cX5_drawOf 5 = .ok (.lmul, 1) := by decide +kernel
theorem dX5_drawOf_6 : decode cX5_drawOf 6 = .ok (.ldc2_w 234, 3) := by decide +kernel
theorem dX5_drawOf_9 : decode cX5_drawOf 9 = .ok (.iload_n 1, 1) := by decide +kernel
theorem dX5_drawOf_10 : decode cX5_drawOf 10 = .ok (.i2l, 1) := by decide +kernel
theorem dX5_drawOf_11 : decode cX5_drawOf 11 = .ok (.lmul, 1) := by decide +kernel
theorem dX5_drawOf_12 : decode cX5_drawOf 12 = .ok (.ladd, 1) := by decide +kernel
theorem dX5_drawOf_13 : decode cX5_drawOf 13 = .ok (.lconst 1, 1) := by decide +kernel
theorem dX5_drawOf_14 : decode cX5_drawOf 14 = .ok (.ladd, 1) := by decide +kernel
theorem dX5_drawOf_15 : decode cX5_drawOf 15 = .ok (.lstore_n 2, 1) := by decide +kernel
theorem dX5_drawOf_16 : decode cX5_drawOf 16 = .ok (.lload_n 2, 1) := by decide +kernel
theorem dX5_drawOf_17 : decode cX5_drawOf 17 = .ok (.lload_n 2, 1) := by decide +kernel
theorem dX5_drawOf_18 : decode cX5_drawOf 18 = .ok (.lmul, 1) := by decide +kernel
theorem dX5_drawOf_19 : decode cX5_drawOf 19 = .ok (.ldc2_w 236, 3) := by decide +kernel
theorem dX5_drawOf_22 : decode cX5_drawOf 22 = .ok (.lrem, 1) := by decide +kernel
theorem dX5_drawOf_23 : decode cX5_drawOf 23 = .ok (.ldc2_w 238, 3) := by decide +kernel
theorem dX5_drawOf_26 : decode cX5_drawOf 26 = .ok (.ldiv, 1) := by decide +kernel
theorem dX5_drawOf_27 : decode cX5_drawOf 27 = .ok (.l2i, 1) := by decide +kernel
theorem dX5_drawOf_28 : decode cX5_drawOf 28 = .ok (.ireturn, 1) := by decide +kernel
theorem dX6_init_0 : decode cX6_init 0 = .ok (.aload_n 0, 1) := by decide +kernel
theorem dX6_init_1 : decode cX6_init 1 = .ok (.invokespecial 1, 3) := by decide +kernel
theorem dX6_init_4 : decode cX6_init 4 = .ok (.aload_n 0, 1) := by decide +kernel
theorem dX6_init_5 : decode cX6_init 5 = .ok (.sipush 200, 3) := by decide +kernel
theorem dX6_init_8 : decode cX6_init 8 = .ok (.newarray .int, 2) := by decide +kernel
theorem dX6_init_10 : decode cX6_init 10 = .ok (.putfield 7, 3) := by decide +kernel
theorem dX6_init_13 : decode cX6_init 13 = .ok (.aload_n 0, 1) := by decide +kernel
theorem dX6_init_14 : decode cX6_init 14 = .ok (.bipush 39, 2) := by decide +kernel
theorem dX6_init_16 : decode cX6_init 16 = .ok (.newarray .int, 2) := by decide +kernel
theorem dX6_init_18 : decode cX6_init 18 = .ok (.putfield 13, 3) := by decide +kernel
theorem dX6_init_21 : decode cX6_init 21 = .ok (.aload_n 0, 1) := by decide +kernel
theorem dX6_init_22 : decode cX6_init 22 = .ok (.bipush 39, 2) := by decide +kernel
theorem dX6_init_24 : decode cX6_init 24 = .ok (.newarray .int, 2) := by decide +kernel
theorem dX6_init_26 : decode cX6_init 26 = .ok (.putfield 16, 3) := by decide +kernel
theorem dX6_init_29 : decode cX6_init 29 = .ok (.aload_n 0, 1) := by decide +kernel
theorem dX6_init_30 : decode cX6_init 30 = .ok (.bipush 73, 2) := by decide +kernel
theorem dX6_init_32 : decode cX6_init 32 = .ok (.newarray .int, 2) := by decide +kernel
theorem dX6_init_34 : decode cX6_init 34 = .ok (.putfield 19, 3) := by decide +kernel
theorem dX6_init_37 : decode cX6_init 37 = .ok (.aload_n 0, 1) := by decide +kernel
theorem dX6_init_38 : decode cX6_init 38 = .ok (.bipush 73, 2) := by decide +kernel
theorem dX6_init_40 : decode cX6_init 40 = .ok (.newarray .int, 2) := by decide +kernel
theorem dX6_init_42 : decode cX6_init 42 = .ok (.putfield 22, 3) := by decide +kernel
theorem dX6_init_45 : decode cX6_init 45 = .ok (.aload_n 0, 1) := by decide +kernel
theorem dX6_init_46 : decode cX6_init 46 = .ok (.sipush 584, 3) := by decide +kernel
theorem dX6_init_49 : decode cX6_init 49 = .ok (.newarray .int, 2) := by decide +kernel
theorem dX6_init_51 : decode cX6_init 51 = .ok (.putfield 25, 3) := by decide +kernel
theorem dX6_init_54 : decode cX6_init 54 = .ok (.aload_n 0, 1) := by decide +kernel
theorem dX6_init_55 : decode cX6_init 55 = .ok (.sipush 146, 3) := by decide +kernel
theorem dX6_init_58 : decode cX6_init 58 = .ok (.newarray .int, 2) := by decide +kernel
theorem dX6_init_60 : decode cX6_init 60 = .ok (.putfield 28, 3) := by decide +kernel
theorem dX6_init_63 : decode cX6_init 63 = .ok (.aload_n 0, 1) := by decide +kernel
theorem dX6_init_64 : decode cX6_init 64 = .ok (.bipush 6, 2) := by decide +kernel
theorem dX6_init_66 : decode cX6_init 66 = .ok (.newarray .int, 2) := by decide +kernel
theorem dX6_init_68 : decode cX6_init 68 = .ok (.putfield 31, 3) := by decide +kernel
theorem dX6_init_71 : decode cX6_init 71 = .ok (.aload_n 0, 1) := by decide +kernel
theorem dX6_init_72 : decode cX6_init 72 = .ok (.bipush 36, 2) := by decide +kernel
theorem dX6_init_74 : decode cX6_init 74 = .ok (.newarray .int, 2) := by decide +kernel
theorem dX6_init_76 : decode cX6_init 76 = .ok (.putfield 34, 3) := by decide +kernel
theorem dX6_init_79 : decode cX6_init 79 = .ok (.aload_n 0, 1) := by decide +kernel
theorem dX6_init_80 : decode cX6_init 80 = .ok (.bipush 73, 2) := by decide +kernel
theorem dX6_init_82 : decode cX6_init 82 = .ok (.newarray .int, 2) := by decide +kernel
theorem dX6_init_84 : decode cX6_init 84 = .ok (.putfield 37, 3) := by decide +kernel
theorem dX6_init_87 : decode cX6_init 87 = .ok (.aload_n 0, 1) := by decide +kernel
theorem dX6_init_88 : decode cX6_init 88 = .ok (.bipush 36, 2) := by decide +kernel
theorem dX6_init_90 : decode cX6_init 90 = .ok (.newarray .boolean, 2) := by decide +kernel
theorem dX6_init_92 : decode cX6_init 92 = .ok (.putfield 40, 3) := by decide +kernel
theorem dX6_init_95 : decode cX6_init 95 = .ok (.aload_n 0, 1) := by decide +kernel
theorem dX6_init_96 : decode cX6_init 96 = .ok (.bipush 36, 2) := by decide +kernel
theorem dX6_init_98 : decode cX6_init 98 = .ok (.newarray .boolean, 2) := by decide +kernel
theorem dX6_init_100 : decode cX6_init 100 = .ok (.putfield 44, 3) := by decide +kernel
theorem dX6_init_103 : decode cX6_init 103 = .ok (.aload_n 0, 1) := by decide +kernel
theorem dX6_init_104 : decode cX6_init 104 = .ok (.invokevirtual 47, 3) := by decide +kernel
theorem dX6_init_107 : decode cX6_init 107 = .ok (.aload_n 0, 1) := by decide +kernel
theorem dX6_init_108 : decode cX6_init 108 = .ok (.getfield 19, 3) := by decide +kernel
theorem dX6_init_111 : decode cX6_init 111 = .ok (.bipush 42, 2) := by decide +kernel
theorem dX6_init_113 : decode cX6_init 113 = .ok (.iconst 2, 1) := by decide +kernel
theorem dX6_init_114 : decode cX6_init 114 = .ok (.iastore, 1) := by decide +kernel
theorem dX6_init_115 : decode cX6_init 115 = .ok (.aload_n 0, 1) := by decide +kernel
theorem dX6_init_116 : decode cX6_init 116 = .ok (.getfield 19, 3) := by decide +kernel
theorem dX6_init_119 : decode cX6_init 119 = .ok (.bipush 43, 2) := by decide +kernel
theorem dX6_init_121 : decode cX6_init 121 = .ok (.iconst 3, 1) := by decide +kernel
theorem dX6_init_122 : decode cX6_init 122 = .ok (.iastore, 1) := by decide +kernel
theorem dX6_init_123 : decode cX6_init 123 = .ok (.aload_n 0, 1) := by decide +kernel
theorem dX6_init_124 : decode cX6_init 124 = .ok (.getfield 19, 3) := by decide +kernel
theorem dX6_init_127 : decode cX6_init 127 = .ok (.bipush 44, 2) := by decide +kernel
theorem dX6_init_129 : decode cX6_init 129 = .ok (.bipush 6, 2) := by decide +kernel
theorem dX6_init_131 : decode cX6_init 131 = .ok (.iastore, 1) := by decide +kernel
theorem dX6_init_132 : decode cX6_init 132 = .ok (.aload_n 0, 1) := by decide +kernel
theorem dX6_init_133 : decode cX6_init 133 = .ok (.getfield 19, 3) := by decide +kernel
theorem dX6_init_136 : decode cX6_init 136 = .ok (.bipush 47, 2) := by decide +kernel
theorem dX6_init_138 : decode cX6_init 138 = .ok (.iconst 1, 1) := by decide +kernel
theorem dX6_init_139 : decode cX6_init 139 = .ok (.iastore, 1) := by decide +kernel
theorem dX6_init_140 : decode cX6_init 140 = .ok (.aload_n 0, 1) := by decide +kernel
theorem dX6_init_141 : decode cX6_init 141 = .ok (.getfield 19, 3) := by decide +kernel
theorem dX6_init_144 : decode cX6_init 144 = .ok (.bipush 48, 2) := by decide +kernel
theorem dX6_init_146 : decode cX6_init 146 = .ok (.iconst 2, 1) := by decide +kernel
theorem dX6_init_147 : decode cX6_init 147 = .ok (.iastore, 1) := by decide +kernel
theorem dX6_init_148 : decode cX6_init 148 = .ok (.aload_n 0, 1) := by decide +kernel
theorem dX6_init_149 : decode cX6_init 149 = .ok (.getfield 19, 3) := by decide +kernel
theorem dX6_init_152 : decode cX6_init 152 = .ok (.bipush 39, 2) := by decide +kernel
theorem dX6_init_154 : decode cX6_init 154 = .ok (.iconst 4, 1) := by decide +kernel
theorem dX6_init_155 : decode cX6_init 155 = .ok (.iastore, 1) := by decide +kernel
theorem dX6_init_156 : decode cX6_init 156 = .ok (.aload_n 0, 1) := by decide +kernel
theorem dX6_init_157 : decode cX6_init 157 = .ok (.getfield 19, 3) := by decide +kernel
theorem dX6_init_160 : decode cX6_init 160 = .ok (.bipush 53, 2) := by decide +kernel
theorem dX6_init_162 : decode cX6_init 162 = .ok (.iconst 3, 1) := by decide +kernel
theorem dX6_init_163 : decode cX6_init 163 = .ok (.iastore, 1) := by decide +kernel
theorem dX6_init_164 : decode cX6_init 164 = .ok (.aload_n 0, 1) := by decide +kernel
theorem dX6_init_165 : decode cX6_init 165 = .ok (.getfield 16, 3) := by decide +kernel
theorem dX6_init_168 : decode cX6_init 168 = .ok (.bipush 7, 2) := by decide +kernel
theorem dX6_init_170 : decode cX6_init 170 = .ok (.iconst 1, 1) := by decide +kernel
theorem dX6_init_171 : decode cX6_init 171 = .ok (.iastore, 1) := by decide +kernel
theorem dX6_init_172 : decode cX6_init 172 = .ok (.aload_n 0, 1) := by decide +kernel
theorem dX6_init_173 : decode cX6_init 173 = .ok (.getfield 16, 3) := by decide +kernel
theorem dX6_init_176 : decode cX6_init 176 = .ok (.bipush 22, 2) := by decide +kernel
theorem dX6_init_178 : decode cX6_init 178 = .ok (.iconst 2, 1) := by decide +kernel
theorem dX6_init_179 : decode cX6_init 179 = .ok (.iastore, 1) := by decide +kernel
theorem dX6_init_180 : decode cX6_init 180 = .ok (.aload_n 0, 1) := by decide +kernel
theorem dX6_init_181 : decode cX6_init 181 = .ok (.getfield 16, 3) := by decide +kernel
theorem dX6_init_184 : decode cX6_init 184 = .ok (.bipush 12, 2) := by decide +kernel
theorem dX6_init_186 : decode cX6_init 186 = .ok (.iconst 3, 1) := by decide +kernel
theorem dX6_init_187 : decode cX6_init 187 = .ok (.iastore, 1) := by decide +kernel
theorem dX6_init_188 : decode cX6_init 188 = .ok (.aload_n 0, 1) := by decide +kernel
theorem dX6_init_189 : decode cX6_init 189 = .ok (.getfield 16, 3) := by decide +kernel
theorem dX6_init_192 : decode cX6_init 192 = .ok (.bipush 14, 2) := by decide +kernel
theorem dX6_init_194 : decode cX6_init 194 = .ok (.iconst 4, 1) := by decide +kernel
theorem dX6_init_195 : decode cX6_init 195 = .ok (.iastore, 1) := by decide +kernel
theorem dX6_init_196 : decode cX6_init 196 = .ok (.aload_n 0, 1) := by decide +kernel
theorem dX6_init_197 : decode cX6_init 197 = .ok (.getfield 19, 3) := by decide +kernel
theorem dX6_init_200 : decode cX6_init 200 = .ok (.bipush 7, 2) := by decide +kernel
theorem dX6_init_202 : decode cX6_init 202 = .ok (.iconst 3, 1) := by decide +kernel
theorem dX6_init_203 : decode cX6_init 203 = .ok (.iastore, 1) := by decide +kernel
theorem dX6_init_204 : decode cX6_init 204 = .ok (.aload_n 0, 1) := by decide +kernel
theorem dX6_init_205 : decode cX6_init 205 = .ok (.invokevirtual 50, 3) := by decide +kernel
theorem dX6_init_208 : decode cX6_init 208 = .ok (.return_, 1) := by decide +kernel
theorem dX6_in_0 : decode cX6_in 0 = .ok (.iload_n 0, 1) := by decide +kernel
theorem dX6_in_1 : decode cX6_in 1 = .ok (.iload_n 1, 1) := by decide +kernel
theorem dX6_in_2 : decode cX6_in 2 = .ok (.if_icmp .lt 12, 3) := by decide +kernel
theorem dX6_in_5 : decode cX6_in 5 = .ok (.iload_n 0, 1) := by decide +kernel
theorem dX6_in_6 : decode cX6_in 6 = .ok (.iload_n 2, 1) := by decide +kernel
theorem dX6_in_7 : decode cX6_in 7 = .ok (.if_icmp .gt 7, 3) := by decide +kernel
theorem dX6_in_10 : decode cX6_in 10 = .ok (.iconst 1, 1) := by decide +kernel
theorem dX6_in_11 : decode cX6_in 11 = .ok (.goto 4, 3) := by decide +kernel
theorem dX6_in_14 : decode cX6_in 14 = .ok (.iconst 0, 1) := by decide +kernel
theorem dX6_in_15 : decode cX6_in 15 = .ok (.ireturn, 1) := by decide +kernel
theorem dX6_cells_0 : decode cX6_cells 0 = .ok (.aload_n 0, 1) := by decide +kernel
theorem dX6_cells_1 : decode cX6_cells 1 = .ok (.getfield 13, 3) := by decide +kernel
theorem dX6_cells_4 : decode cX6_cells 4 = .ok (.iconst 0, 1) := by decide +kernel
theorem dX6_cells_5 : decode cX6_cells 5 = .ok (.iaload, 1) := by decide +kernel
theorem dX6_cells_6 : decode cX6_cells 6 = .ok (.aload_n 0, 1) := by decide +kernel
theorem dX6_cells_7 : decode cX6_cells 7 = .ok (.getfield 13, 3) := by decide +kernel
theorem dX6_cells_10 : decode cX6_cells 10 = .ok (.iconst 1, 1) := by decide +kernel
theorem dX6_cells_11 : decode cX6_cells 11 = .ok (.iaload, 1) := by decide +kernel
theorem dX6_cells_12 : decode cX6_cells 12 = .ok (.imul, 1) := by decide +kernel
theorem dX6_cells_13 : decode cX6_cells 13 = .ok (.ireturn, 1) := by decide +kernel
theorem dX6_isCell_0 : decode cX6_isCell 0 = .ok (.iload_n 1, 1) := by decide +kernel
theorem dX6_isCell_1 : decode cX6_isCell 1 = .ok (.iconst 0, 1) := by decide +kernel
theorem dX6_isCell_2 : decode cX6_isCell 2 = .ok (.aload_n 0, 1) := by decide +kernel
theorem dX6_isCell_3 : decode cX6_isCell 3 = .ok (.invokevirtual 53, 3) := by decide +kernel
theorem dX6_isCell_6 : decode cX6_isCell 6 = .ok (.iconst 1, 1) := by decide +kernel
theorem dX6_isCell_7 : decode cX6_isCell 7 = .ok (.isub, 1) := by decide +kernel
theorem dX6_isCell_8 : decode cX6_isCell 8 = .ok (.invokestatic 57, 3) := by decide +kernel
theorem dX6_isCell_11 : decode cX6_isCell 11 = .ok (.ireturn, 1) := by decide +kernel
theorem dX6_write_0 : decode cX6_write 0 = .ok (.iload_n 1, 1) := by decide +kernel
theorem dX6_write_1 : decode cX6_write 1 = .ok (.bipush 32, 2) := by decide +kernel
theorem dX6_write_3 : decode cX6_write 3 = .ok (.bipush 126, 2) := by decide +kernel
theorem dX6_write_5 : decode cX6_write 5 = .ok (.invokestatic 57, 3) := by decide +kernel
theorem dX6_write_8 : decode cX6_write 8 = .ok (.ifCond .ne 5, 3) := by decide +kernel
theorem dX6_write_11 : decode cX6_write 11 = .ok (.iconst (-1), 1) := by decide +kernel
theorem dX6_write_12 : decode cX6_write 12 = .ok (.ireturn, 1) := by decide +kernel
theorem dX6_write_13 : decode cX6_write 13 = .ok (.aload_n 0, 1) := by decide +kernel
theorem dX6_write_14 : decode cX6_write 14 = .ok (.getfield 61, 3) := by decide +kernel
theorem dX6_write_17 : decode cX6_write 17 = .ok (.sipush 200, 3) := by decide +kernel
theorem dX6_write_20 : decode cX6_write 20 = .ok (.if_icmp .ne 6, 3) := by decide +kernel
theorem dX6_write_23 : decode cX6_write 23 = .ok (.bipush (-3), 2) := by decide +kernel
theorem dX6_write_25 : decode cX6_write 25 = .ok (.ireturn, 1) := by decide +kernel
theorem dX6_write_26 : decode cX6_write 26 = .ok (.aload_n 0, 1) := by decide +kernel
theorem dX6_write_27 : decode cX6_write 27 = .ok (.getfield 7, 3) := by decide +kernel
theorem dX6_write_30 : decode cX6_write 30 = .ok (.aload_n 0, 1) := by decide +kernel
theorem dX6_write_31 : decode cX6_write 31 = .ok (.getfield 61, 3) := by decide +kernel
theorem dX6_write_34 : decode cX6_write 34 = .ok (.iload_n 1, 1) := by decide +kernel
theorem dX6_write_35 : decode cX6_write 35 = .ok (.iastore, 1) := by decide +kernel
theorem dX6_write_36 : decode cX6_write 36 = .ok (.aload_n 0, 1) := by decide +kernel
theorem dX6_write_37 : decode cX6_write 37 = .ok (.dup, 1) := by decide +kernel
theorem dX6_write_38 : decode cX6_write 38 = .ok (.getfield 61, 3) := by decide +kernel
theorem dX6_write_41 : decode cX6_write 41 = .ok (.iconst 1, 1) := by decide +kernel
theorem dX6_write_42 : decode cX6_write 42 = .ok (.iadd, 1) := by decide +kernel
theorem dX6_write_43 : decode cX6_write 43 = .ok (.putfield 61, 3) := by decide +kernel
theorem dX6_write_46 : decode cX6_write 46 = .ok (.aload_n 0, 1) := by decide +kernel
theorem dX6_write_47 : decode cX6_write 47 = .ok (.getfield 61, 3) := by decide +kernel
theorem dX6_write_50 : decode cX6_write 50 = .ok (.ireturn, 1) := by decide +kernel
theorem dX6_wipe_0 : decode cX6_wipe 0 = .ok (.aload_n 0, 1) := by decide +kernel
theorem dX6_wipe_1 : decode cX6_wipe 1 = .ok (.getfield 61, 3) := by decide +kernel
theorem dX6_wipe_4 : decode cX6_wipe 4 = .ok (.istore_n 1, 1) := by decide +kernel
theorem dX6_wipe_5 : decode cX6_wipe 5 = .ok (.aload_n 0, 1) := by decide +kernel
theorem dX6_wipe_6 : decode cX6_wipe 6 = .ok (.iconst 0, 1) := by decide +kernel
theorem dX6_wipe_7 : decode cX6_wipe 7 = .ok (.putfield 61, 3) := by decide +kernel
theorem dX6_wipe_10 : decode cX6_wipe 10 = .ok (.iload_n 1, 1) := by decide +kernel
theorem dX6_wipe_11 : decode cX6_wipe 11 = .ok (.ireturn, 1) := by decide +kernel
theorem dX6_letterAt_0 : decode cX6_letterAt 0 = .ok (.iload_n 1, 1) := by decide +kernel
theorem dX6_letterAt_1 : decode cX6_letterAt 1 = .ok (.aload_n 0, 1) := by decide +kernel
theorem dX6_letterAt_2 : decode cX6_letterAt 2 = .ok (.getfield 61, 3) := by decide +kernel
theorem dX6_letterAt_5 : decode cX6_letterAt 5 = .ok (.if_icmp .ge 12, 3) := by decide +kernel
theorem dX6_letterAt_8 : decode cX6_letterAt 8 = .ok (.aload_n 0, 1) := by decide +kernel
theorem dX6_letterAt_9 : decode cX6_letterAt 9 = .ok (.getfield 7, 3) := by decide +kernel
theorem dX6_letterAt_12 : decode cX6_letterAt 12 = .ok (.iload_n 1, 1) := by decide +kernel
theorem dX6_letterAt_13 : decode cX6_letterAt 13 = .ok (.iaload, 1) := by decide +kernel
theorem dX6_letterAt_14 : decode cX6_letterAt 14 = .ok (.goto 4, 3) := by decide +kernel
theorem dX6_letterAt_17 : decode cX6_letterAt 17 = .ok (.iconst (-1), 1) := by decide +kernel
theorem dX6_letterAt_18 : decode cX6_letterAt 18 = .ok (.ireturn, 1) := by decide +kernel
theorem dX6_isFigure_0 : decode cX6_isFigure 0 = .ok (.iload_n 0, 1) := by decide +kernel
theorem dX6_isFigure_1 : decode cX6_isFigure 1 = .ok (.bipush 48, 2) := by decide +kernel
theorem dX6_isFigure_3 : decode cX6_isFigure 3 = .ok (.bipush 57, 2) := by decide +kernel
theorem dX6_isFigure_5 : decode cX6_isFigure 5 = .ok (.invokestatic 57, 3) := by decide +kernel
theorem dX6_isFigure_8 : decode cX6_isFigure 8 = .ok (.ireturn, 1) := by decide +kernel
theorem dX6_number_0 : decode cX6_number 0 = .ok (.aload_n 0, 1) := by decide +kernel
theorem dX6_number_1 : decode cX6_number 1 = .ok (.aload_n 0, 1) := by decide +kernel
theorem dX6_number_2 : decode cX6_number 2 = .ok (.getfield 65, 3) := by decide +kernel
theorem dX6_number_5 : decode cX6_number 5 = .ok (.invokevirtual 68, 3) := by decide +kernel
theorem dX6_number_8 : decode cX6_number 8 = .ok (.invokestatic 72, 3) := by decide +kernel
theorem dX6_number_11 : decode cX6_number 11 = .ok (.ifCond .ne 5, 3) := by decide +kernel
theorem dX6_number_14 : decode cX6_number 14 = .ok (.iconst (-1), 1) := by decide +kernel
theorem dX6_number_15 : decode cX6_number 15 = .ok (.ireturn, 1) := by decide +kernel
theorem dX6_number_16 : decode cX6_number 16 = .ok (.aload_n 0, 1) := by decide +kernel
theorem dX6_number_17 : decode cX6_number 17 = .ok (.aload_n 0, 1) := by decide +kernel
theorem dX6_number_18 : decode cX6_number 18 = .ok (.getfield 65, 3) := by decide +kernel
theorem dX6_number_21 : decode cX6_number 21 = .ok (.invokevirtual 68, 3) := by decide +kernel
theorem dX6_number_24 : decode cX6_number 24 = .ok (.bipush 48, 2) := by decide +kernel
theorem dX6_number_26 : decode cX6_number 26 = .ok (.isub, 1) := by decide +kernel
theorem dX6_number_27 : decode cX6_number 27 = .ok (.istore 4, 2) := by decide +kernel
theorem dX6_number_29 : decode cX6_number 29 = .ok (.aload_n 0, 1) := by decide +kernel
theorem dX6_number_30 : decode cX6_number 30 = .ok (.dup, 1) := by decide +kernel
theorem dX6_number_31 : decode cX6_number 31 = .ok (.getfield 65, 3) := by decide +kernel
theorem dX6_number_34 : decode cX6_number 34 = .ok (.iconst 1, 1) := by decide +kernel
theorem dX6_number_35 : decode cX6_number 35 = .ok (.iadd, 1) := by decide +kernel
theorem dX6_number_36 : decode cX6_number 36 = .ok (.putfield 65, 3) := by decide +kernel
theorem dX6_number_39 : decode cX6_number 39 = .ok (.aload_n 0, 1) := by decide +kernel
theorem dX6_number_40 : decode cX6_number 40 = .ok (.aload_n 0, 1) := by decide +kernel
theorem dX6_number_41 : decode cX6_number 41 = .ok (.getfield 65, 3) := by decide +kernel
theorem dX6_number_44 : decode cX6_number 44 = .ok (.invokevirtual 68, 3) := by decide +kernel
theorem dX6_number_47 : decode cX6_number 47 = .ok (.invokestatic 72, 3) := by decide +kernel
