theorem dX6_number_50 : decode cX6_number 50 = .ok (.ifCond .eq 32, 3) := by decide +kernel
theorem dX6_number_53 : decode cX6_number 53 = .ok (.bipush 10, 2) := by decide +kernel
theorem dX6_number_55 : decode cX6_number 55 = .ok (.iload 4, 2) := by decide +kernel
theorem dX6_number_57 : decode cX6_number 57 = .ok (.imul, 1) := by decide +kernel
theorem dX6_number_58 : decode cX6_number 58 = .ok (.aload_n 0, 1) := by decide +kernel
theorem dX6_number_59 : decode cX6_number 59 = .ok (.aload_n 0, 1) := by decide +kernel
theorem dX6_number_60 : decode cX6_number 60 = .ok (.getfield 65, 3) := by decide +kernel
theorem dX6_number_63 : decode cX6_number 63 = .ok (.invokevirtual 68, 3) := by decide +kernel
theorem dX6_number_66 : decode cX6_number 66 = .ok (.iadd, 1) := by decide +kernel
theorem dX6_number_67 : decode cX6_number 67 = .ok (.bipush 48, 2) := by decide +kernel
theorem dX6_number_69 : decode cX6_number 69 = .ok (.isub, 1) := by decide +kernel
theorem dX6_number_70 : decode cX6_number 70 = .ok (.istore 4, 2) := by decide +kernel
theorem dX6_number_72 : decode cX6_number 72 = .ok (.aload_n 0, 1) := by decide +kernel
theorem dX6_number_73 : decode cX6_number 73 = .ok (.dup, 1) := by decide +kernel
theorem dX6_number_74 : decode cX6_number 74 = .ok (.getfield 65, 3) := by decide +kernel
theorem dX6_number_77 : decode cX6_number 77 = .ok (.iconst 1, 1) := by decide +kernel
theorem dX6_number_78 : decode cX6_number 78 = .ok (.iadd, 1) := by decide +kernel
theorem dX6_number_79 : decode cX6_number 79 = .ok (.putfield 65, 3) := by decide +kernel
theorem dX6_number_82 : decode cX6_number 82 = .ok (.aload_n 0, 1) := by decide +kernel
theorem dX6_number_83 : decode cX6_number 83 = .ok (.aload_n 0, 1) := by decide +kernel
theorem dX6_number_84 : decode cX6_number 84 = .ok (.getfield 65, 3) := by decide +kernel
theorem dX6_number_87 : decode cX6_number 87 = .ok (.invokevirtual 68, 3) := by decide +kernel
theorem dX6_number_90 : decode cX6_number 90 = .ok (.iload_n 3, 1) := by decide +kernel
theorem dX6_number_91 : decode cX6_number 91 = .ok (.if_icmp .ne 17, 3) := by decide +kernel
theorem dX6_number_94 : decode cX6_number 94 = .ok (.iload 4, 2) := by decide +kernel
theorem dX6_number_96 : decode cX6_number 96 = .ok (.iload_n 1, 1) := by decide +kernel
theorem dX6_number_97 : decode cX6_number 97 = .ok (.iload_n 2, 1) := by decide +kernel
theorem dX6_number_98 : decode cX6_number 98 = .ok (.invokestatic 57, 3) := by decide +kernel
theorem dX6_number_101 : decode cX6_number 101 = .ok (.ifCond .eq 7, 3) := by decide +kernel
theorem dX6_number_104 : decode cX6_number 104 = .ok (.iconst 1, 1) := by decide +kernel
theorem dX6_number_105 : decode cX6_number 105 = .ok (.goto 4, 3) := by decide +kernel
theorem dX6_number_108 : decode cX6_number 108 = .ok (.iconst 0, 1) := by decide +kernel
theorem dX6_number_109 : decode cX6_number 109 = .ok (.istore 5, 2) := by decide +kernel
theorem dX6_number_111 : decode cX6_number 111 = .ok (.aload_n 0, 1) := by decide +kernel
theorem dX6_number_112 : decode cX6_number 112 = .ok (.dup, 1) := by decide +kernel
theorem dX6_number_113 : decode cX6_number 113 = .ok (.getfield 65, 3) := by decide +kernel
theorem dX6_number_116 : decode cX6_number 116 = .ok (.iconst 1, 1) := by decide +kernel
theorem dX6_number_117 : decode cX6_number 117 = .ok (.iadd, 1) := by decide +kernel
theorem dX6_number_118 : decode cX6_number 118 = .ok (.putfield 65, 3) := by decide +kernel
theorem dX6_number_121 : decode cX6_number 121 = .ok (.iload 5, 2) := by decide +kernel
theorem dX6_number_123 : decode cX6_number 123 = .ok (.ifCond .eq 8, 3) := by decide +kernel
theorem dX6_number_126 : decode cX6_number 126 = .ok (.iload 4, 2) := by decide +kernel
theorem dX6_number_128 : decode cX6_number 128 = .ok (.goto 4, 3) := by decide +kernel
theorem dX6_number_131 : decode cX6_number 131 = .ok (.iconst (-1), 1) := by decide +kernel
theorem dX6_number_132 : decode cX6_number 132 = .ok (.ireturn, 1) := by decide +kernel
theorem dX6_begins_0 : decode cX6_begins 0 = .ok (.iconst 0, 1) := by decide +kernel
theorem dX6_begins_1 : decode cX6_begins 1 = .ok (.istore_n 1, 1) := by decide +kernel
theorem dX6_begins_2 : decode cX6_begins 2 = .ok (.iload_n 1, 1) := by decide +kernel
theorem dX6_begins_3 : decode cX6_begins 3 = .ok (.bipush 39, 2) := by decide +kernel
theorem dX6_begins_5 : decode cX6_begins 5 = .ok (.if_icmp .ge 16, 3) := by decide +kernel
theorem dX6_begins_8 : decode cX6_begins 8 = .ok (.aload_n 0, 1) := by decide +kernel
theorem dX6_begins_9 : decode cX6_begins 9 = .ok (.getfield 16, 3) := by decide +kernel
theorem dX6_begins_12 : decode cX6_begins 12 = .ok (.iload_n 1, 1) := by decide +kernel
theorem dX6_begins_13 : decode cX6_begins 13 = .ok (.iconst 0, 1) := by decide +kernel
theorem dX6_begins_14 : decode cX6_begins 14 = .ok (.iastore, 1) := by decide +kernel
theorem dX6_begins_15 : decode cX6_begins 15 = .ok (.iinc 1 1, 3) := by decide +kernel
theorem dX6_begins_18 : decode cX6_begins 18 = .ok (.goto (-16), 3) := by decide +kernel
theorem dX6_begins_21 : decode cX6_begins 21 = .ok (.aload_n 0, 1) := by decide +kernel
theorem dX6_begins_22 : decode cX6_begins 22 = .ok (.getfield 16, 3) := by decide +kernel
theorem dX6_begins_25 : decode cX6_begins 25 = .ok (.iconst 0, 1) := by decide +kernel
theorem dX6_begins_26 : decode cX6_begins 26 = .ok (.iconst 4, 1) := by decide +kernel
theorem dX6_begins_27 : decode cX6_begins 27 = .ok (.iastore, 1) := by decide +kernel
theorem dX6_begins_28 : decode cX6_begins 28 = .ok (.aload_n 0, 1) := by decide +kernel
theorem dX6_begins_29 : decode cX6_begins 29 = .ok (.getfield 16, 3) := by decide +kernel
theorem dX6_begins_32 : decode cX6_begins 32 = .ok (.iconst 1, 1) := by decide +kernel
theorem dX6_begins_33 : decode cX6_begins 33 = .ok (.iconst 5, 1) := by decide +kernel
theorem dX6_begins_34 : decode cX6_begins 34 = .ok (.iastore, 1) := by decide +kernel
theorem dX6_begins_35 : decode cX6_begins 35 = .ok (.iconst 0, 1) := by decide +kernel
theorem dX6_begins_36 : decode cX6_begins 36 = .ok (.istore_n 1, 1) := by decide +kernel
theorem dX6_begins_37 : decode cX6_begins 37 = .ok (.iload_n 1, 1) := by decide +kernel
theorem dX6_begins_38 : decode cX6_begins 38 = .ok (.bipush 73, 2) := by decide +kernel
theorem dX6_begins_40 : decode cX6_begins 40 = .ok (.if_icmp .ge 31, 3) := by decide +kernel
theorem dX6_begins_43 : decode cX6_begins 43 = .ok (.aload_n 0, 1) := by decide +kernel
theorem dX6_begins_44 : decode cX6_begins 44 = .ok (.getfield 19, 3) := by decide +kernel
theorem dX6_begins_47 : decode cX6_begins 47 = .ok (.iload_n 1, 1) := by decide +kernel
theorem dX6_begins_48 : decode cX6_begins 48 = .ok (.iload_n 1, 1) := by decide +kernel
theorem dX6_begins_49 : decode cX6_begins 49 = .ok (.bipush 36, 2) := by decide +kernel
theorem dX6_begins_51 : decode cX6_begins 51 = .ok (.bipush 71, 2) := by decide +kernel
theorem dX6_begins_53 : decode cX6_begins 53 = .ok (.invokestatic 57, 3) := by decide +kernel
theorem dX6_begins_56 : decode cX6_begins 56 = .ok (.ifCond .eq 7, 3) := by decide +kernel
theorem dX6_begins_59 : decode cX6_begins 59 = .ok (.iconst 5, 1) := by decide +kernel
theorem dX6_begins_60 : decode cX6_begins 60 = .ok (.goto 4, 3) := by decide +kernel
theorem dX6_begins_63 : decode cX6_begins 63 = .ok (.iconst 0, 1) := by decide +kernel
theorem dX6_begins_64 : decode cX6_begins 64 = .ok (.iastore, 1) := by decide +kernel
theorem dX6_begins_65 : decode cX6_begins 65 = .ok (.iinc 1 1, 3) := by decide +kernel
theorem dX6_begins_68 : decode cX6_begins 68 = .ok (.goto (-31), 3) := by decide +kernel
theorem dX6_begins_71 : decode cX6_begins 71 = .ok (.return_, 1) := by decide +kernel
theorem dX6_readsItem_0 : decode cX6_readsItem 0 = .ok (.iload_n 1, 1) := by decide +kernel
theorem dX6_readsItem_1 : decode cX6_readsItem 1 = .ok (.bipush 115, 2) := by decide +kernel
theorem dX6_readsItem_3 : decode cX6_readsItem 3 = .ok (.if_icmp .ne 64, 3) := by decide +kernel
theorem dX6_readsItem_6 : decode cX6_readsItem 6 = .ok (.aload_n 0, 1) := by decide +kernel
theorem dX6_readsItem_7 : decode cX6_readsItem 7 = .ok (.iconst 2, 1) := by decide +kernel
theorem dX6_readsItem_8 : decode cX6_readsItem 8 = .ok (.bipush 6, 2) := by decide +kernel
theorem dX6_readsItem_10 : decode cX6_readsItem 10 = .ok (.bipush 44, 2) := by decide +kernel
theorem dX6_readsItem_12 : decode cX6_readsItem 12 = .ok (.invokevirtual 76, 3) := by decide +kernel
theorem dX6_readsItem_15 : decode cX6_readsItem 15 = .ok (.istore_n 2, 1) := by decide +kernel
theorem dX6_readsItem_16 : decode cX6_readsItem 16 = .ok (.iload_n 2, 1) := by decide +kernel
theorem dX6_readsItem_17 : decode cX6_readsItem 17 = .ok (.ifCond .ge 7, 3) := by decide +kernel
theorem dX6_readsItem_20 : decode cX6_readsItem 20 = .ok (.iconst (-1), 1) := by decide +kernel
theorem dX6_readsItem_21 : decode cX6_readsItem 21 = .ok (.goto 12, 3) := by decide +kernel
theorem dX6_readsItem_24 : decode cX6_readsItem 24 = .ok (.aload_n 0, 1) := by decide +kernel
theorem dX6_readsItem_25 : decode cX6_readsItem 25 = .ok (.iconst 2, 1) := by decide +kernel
theorem dX6_readsItem_26 : decode cX6_readsItem 26 = .ok (.bipush 6, 2) := by decide +kernel
theorem dX6_readsItem_28 : decode cX6_readsItem 28 = .ok (.bipush 59, 2) := by decide +kernel
theorem dX6_readsItem_30 : decode cX6_readsItem 30 = .ok (.invokevirtual 76, 3) := by decide +kernel
theorem dX6_readsItem_33 : decode cX6_readsItem 33 = .ok (.istore_n 3, 1) := by decide +kernel
theorem dX6_readsItem_34 : decode cX6_readsItem 34 = .ok (.aload_n 0, 1) := by decide +kernel
theorem dX6_readsItem_35 : decode cX6_readsItem 35 = .ok (.getfield 16, 3) := by decide +kernel
theorem dX6_readsItem_38 : decode cX6_readsItem 38 = .ok (.iconst 0, 1) := by decide +kernel
theorem dX6_readsItem_39 : decode cX6_readsItem 39 = .ok (.iload_n 2, 1) := by decide +kernel
theorem dX6_readsItem_40 : decode cX6_readsItem 40 = .ok (.iastore, 1) := by decide +kernel
theorem dX6_readsItem_41 : decode cX6_readsItem 41 = .ok (.aload_n 0, 1) := by decide +kernel
theorem dX6_readsItem_42 : decode cX6_readsItem 42 = .ok (.getfield 16, 3) := by decide +kernel
theorem dX6_readsItem_45 : decode cX6_readsItem 45 = .ok (.iconst 1, 1) := by decide +kernel
theorem dX6_readsItem_46 : decode cX6_readsItem 46 = .ok (.iload_n 3, 1) := by decide +kernel
theorem dX6_readsItem_47 : decode cX6_readsItem 47 = .ok (.iastore, 1) := by decide +kernel
theorem dX6_readsItem_48 : decode cX6_readsItem 48 = .ok (.iload_n 3, 1) := by decide +kernel
theorem dX6_readsItem_49 : decode cX6_readsItem 49 = .ok (.ifCond .le 16, 3) := by decide +kernel
theorem dX6_readsItem_52 : decode cX6_readsItem 52 = .ok (.aload_n 0, 1) := by decide +kernel
theorem dX6_readsItem_53 : decode cX6_readsItem 53 = .ok (.getfield 16, 3) := by decide +kernel
theorem dX6_readsItem_56 : decode cX6_readsItem 56 = .ok (.iconst 2, 1) := by decide +kernel
theorem dX6_readsItem_57 : decode cX6_readsItem 57 = .ok (.iaload, 1) := by decide +kernel
theorem dX6_readsItem_58 : decode cX6_readsItem 58 = .ok (.ifCond .ne 7, 3) := by decide +kernel
theorem dX6_readsItem_61 : decode cX6_readsItem 61 = .ok (.iconst 1, 1) := by decide +kernel
theorem dX6_readsItem_62 : decode cX6_readsItem 62 = .ok (.goto 4, 3) := by decide +kernel
theorem dX6_readsItem_65 : decode cX6_readsItem 65 = .ok (.iconst 0, 1) := by decide +kernel
theorem dX6_readsItem_66 : decode cX6_readsItem 66 = .ok (.ireturn, 1) := by decide +kernel
theorem dX6_readsItem_67 : decode cX6_readsItem 67 = .ok (.aload_n 0, 1) := by decide +kernel
theorem dX6_readsItem_68 : decode cX6_readsItem 68 = .ok (.getfield 16, 3) := by decide +kernel
theorem dX6_readsItem_71 : decode cX6_readsItem 71 = .ok (.iconst 2, 1) := by decide +kernel
theorem dX6_readsItem_72 : decode cX6_readsItem 72 = .ok (.iconst 1, 1) := by decide +kernel
theorem dX6_readsItem_73 : decode cX6_readsItem 73 = .ok (.iastore, 1) := by decide +kernel
theorem dX6_readsItem_74 : decode cX6_readsItem 74 = .ok (.iload_n 1, 1) := by decide +kernel
theorem dX6_readsItem_75 : decode cX6_readsItem 75 = .ok (.bipush 104, 2) := by decide +kernel
theorem dX6_readsItem_77 : decode cX6_readsItem 77 = .ok (.if_icmp .eq 17, 3) := by decide +kernel
theorem dX6_readsItem_80 : decode cX6_readsItem 80 = .ok (.iload_n 1, 1) := by decide +kernel
theorem dX6_readsItem_81 : decode cX6_readsItem 81 = .ok (.bipush 107, 2) := by decide +kernel
theorem dX6_readsItem_83 : decode cX6_readsItem 83 = .ok (.if_icmp .eq 11, 3) := by decide +kernel
theorem dX6_readsItem_86 : decode cX6_readsItem 86 = .ok (.iload_n 1, 1) := by decide +kernel
theorem dX6_readsItem_87 : decode cX6_readsItem 87 = .ok (.bipush 119, 2) := by decide +kernel
theorem dX6_readsItem_89 : decode cX6_readsItem 89 = .ok (.if_icmp .eq 5, 3) := by decide +kernel
theorem dX6_readsItem_92 : decode cX6_readsItem 92 = .ok (.iconst 0, 1) := by decide +kernel
theorem dX6_readsItem_93 : decode cX6_readsItem 93 = .ok (.ireturn, 1) := by decide +kernel
theorem dX6_readsItem_94 : decode cX6_readsItem 94 = .ok (.aload_n 0, 1) := by decide +kernel
theorem dX6_readsItem_95 : decode cX6_readsItem 95 = .ok (.iconst 0, 1) := by decide +kernel
theorem dX6_readsItem_96 : decode cX6_readsItem 96 = .ok (.aload_n 0, 1) := by decide +kernel
theorem dX6_readsItem_97 : decode cX6_readsItem 97 = .ok (.getfield 16, 3) := by decide +kernel
theorem dX6_readsItem_100 : decode cX6_readsItem 100 = .ok (.iconst 0, 1) := by decide +kernel
theorem dX6_readsItem_101 : decode cX6_readsItem 101 = .ok (.iaload, 1) := by decide +kernel
theorem dX6_readsItem_102 : decode cX6_readsItem 102 = .ok (.aload_n 0, 1) := by decide +kernel
theorem dX6_readsItem_103 : decode cX6_readsItem 103 = .ok (.getfield 16, 3) := by decide +kernel
theorem dX6_readsItem_106 : decode cX6_readsItem 106 = .ok (.iconst 1, 1) := by decide +kernel
theorem dX6_readsItem_107 : decode cX6_readsItem 107 = .ok (.iaload, 1) := by decide +kernel
theorem dX6_readsItem_108 : decode cX6_readsItem 108 = .ok (.imul, 1) := by decide +kernel
theorem dX6_readsItem_109 : decode cX6_readsItem 109 = .ok (.iconst 1, 1) := by decide +kernel
theorem dX6_readsItem_110 : decode cX6_readsItem 110 = .ok (.isub, 1) := by decide +kernel
theorem dX6_readsItem_111 : decode cX6_readsItem 111 = .ok (.bipush 44, 2) := by decide +kernel
theorem dX6_readsItem_113 : decode cX6_readsItem 113 = .ok (.invokevirtual 76, 3) := by decide +kernel
theorem dX6_readsItem_116 : decode cX6_readsItem 116 = .ok (.istore_n 2, 1) := by decide +kernel
theorem dX6_readsItem_117 : decode cX6_readsItem 117 = .ok (.iload_n 2, 1) := by decide +kernel
theorem dX6_readsItem_118 : decode cX6_readsItem 118 = .ok (.ifCond .ge 7, 3) := by decide +kernel
theorem dX6_readsItem_121 : decode cX6_readsItem 121 = .ok (.iconst (-1), 1) := by decide +kernel
theorem dX6_readsItem_122 : decode cX6_readsItem 122 = .ok (.goto 22, 3) := by decide +kernel
theorem dX6_readsItem_125 : decode cX6_readsItem 125 = .ok (.aload_n 0, 1) := by decide +kernel
theorem dX6_readsItem_126 : decode cX6_readsItem 126 = .ok (.iconst 0, 1) := by decide +kernel
theorem dX6_readsItem_127 : decode cX6_readsItem 127 = .ok (.iload_n 1, 1) := by decide +kernel
theorem dX6_readsItem_128 : decode cX6_readsItem 128 = .ok (.bipush 107, 2) := by decide +kernel
theorem dX6_readsItem_130 : decode cX6_readsItem 130 = .ok (.if_icmp .ne 7, 3) := by decide +kernel
theorem dX6_readsItem_133 : decode cX6_readsItem 133 = .ok (.iconst 4, 1) := by decide +kernel
theorem dX6_readsItem_134 : decode cX6_readsItem 134 = .ok (.goto 5, 3) := by decide +kernel
theorem dX6_readsItem_137 : decode cX6_readsItem 137 = .ok (.bipush 20, 2) := by decide +kernel
theorem dX6_readsItem_139 : decode cX6_readsItem 139 = .ok (.bipush 59, 2) := by decide +kernel
theorem dX6_readsItem_141 : decode cX6_readsItem 141 = .ok (.invokevirtual 76, 3) := by decide +kernel
theorem dX6_readsItem_144 : decode cX6_readsItem 144 = .ok (.istore_n 3, 1) := by decide +kernel
theorem dX6_readsItem_145 : decode cX6_readsItem 145 = .ok (.iload_n 3, 1) := by decide +kernel
theorem dX6_readsItem_146 : decode cX6_readsItem 146 = .ok (.ifCond .ge 5, 3) := by decide +kernel
theorem dX6_readsItem_149 : decode cX6_readsItem 149 = .ok (.iconst 0, 1) := by decide +kernel
theorem dX6_readsItem_150 : decode cX6_readsItem 150 = .ok (.ireturn, 1) := by decide +kernel
theorem dX6_readsItem_151 : decode cX6_readsItem 151 = .ok (.iload_n 1, 1) := by decide +kernel
theorem dX6_readsItem_152 : decode cX6_readsItem 152 = .ok (.bipush 104, 2) := by decide +kernel
theorem dX6_readsItem_154 : decode cX6_readsItem 154 = .ok (.if_icmp .ne 16, 3) := by decide +kernel
theorem dX6_readsItem_157 : decode cX6_readsItem 157 = .ok (.aload_n 0, 1) := by decide +kernel
theorem dX6_readsItem_158 : decode cX6_readsItem 158 = .ok (.getfield 19, 3) := by decide +kernel
theorem dX6_readsItem_161 : decode cX6_readsItem 161 = .ok (.bipush 36, 2) := by decide +kernel
theorem dX6_readsItem_163 : decode cX6_readsItem 163 = .ok (.iload_n 2, 1) := by decide +kernel
theorem dX6_readsItem_164 : decode cX6_readsItem 164 = .ok (.iadd, 1) := by decide +kernel
theorem dX6_readsItem_165 : decode cX6_readsItem 165 = .ok (.iload_n 3, 1) := by decide +kernel
theorem dX6_readsItem_166 : decode cX6_readsItem 166 = .ok (.iastore, 1) := by decide +kernel
theorem dX6_readsItem_167 : decode cX6_readsItem 167 = .ok (.goto 28, 3) := by decide +kernel
theorem dX6_readsItem_170 : decode cX6_readsItem 170 = .ok (.iload_n 1, 1) := by decide +kernel
theorem dX6_readsItem_171 : decode cX6_readsItem 171 = .ok (.bipush 107, 2) := by decide +kernel
theorem dX6_readsItem_173 : decode cX6_readsItem 173 = .ok (.if_icmp .ne 15, 3) := by decide +kernel
theorem dX6_readsItem_176 : decode cX6_readsItem 176 = .ok (.aload_n 0, 1) := by decide +kernel
theorem dX6_readsItem_177 : decode cX6_readsItem 177 = .ok (.getfield 16, 3) := by decide +kernel
theorem dX6_readsItem_180 : decode cX6_readsItem 180 = .ok (.iconst 3, 1) := by decide +kernel
theorem dX6_readsItem_181 : decode cX6_readsItem 181 = .ok (.iload_n 2, 1) := by decide +kernel
theorem dX6_readsItem_182 : decode cX6_readsItem 182 = .ok (.iadd, 1) := by decide +kernel
theorem dX6_readsItem_183 : decode cX6_readsItem 183 = .ok (.iload_n 3, 1) := by decide +kernel
theorem dX6_readsItem_184 : decode cX6_readsItem 184 = .ok (.iastore, 1) := by decide +kernel
theorem dX6_readsItem_185 : decode cX6_readsItem 185 = .ok (.goto 10, 3) := by decide +kernel
theorem dX6_readsItem_188 : decode cX6_readsItem 188 = .ok (.aload_n 0, 1) := by decide +kernel
theorem dX6_readsItem_189 : decode cX6_readsItem 189 = .ok (.getfield 19, 3) := by decide +kernel
theorem dX6_readsItem_192 : decode cX6_readsItem 192 = .ok (.iload_n 2, 1) := by decide +kernel
theorem dX6_readsItem_193 : decode cX6_readsItem 193 = .ok (.iload_n 3, 1) := by decide +kernel
theorem dX6_readsItem_194 : decode cX6_readsItem 194 = .ok (.iastore, 1) := by decide +kernel
theorem dX6_readsItem_195 : decode cX6_readsItem 195 = .ok (.iconst 1, 1) := by decide +kernel
theorem dX6_readsItem_196 : decode cX6_readsItem 196 = .ok (.ireturn, 1) := by decide +kernel
theorem dX6_readsAll_0 : decode cX6_readsAll 0 = .ok (.aload_n 0, 1) := by decide +kernel
theorem dX6_readsAll_1 : decode cX6_readsAll 1 = .ok (.invokevirtual 47, 3) := by decide +kernel
theorem dX6_readsAll_4 : decode cX6_readsAll 4 = .ok (.aload_n 0, 1) := by decide +kernel
theorem dX6_readsAll_5 : decode cX6_readsAll 5 = .ok (.iconst 0, 1) := by decide +kernel
theorem dX6_readsAll_6 : decode cX6_readsAll 6 = .ok (.putfield 65, 3) := by decide +kernel
theorem dX6_readsAll_9 : decode cX6_readsAll 9 = .ok (.aload_n 0, 1) := by decide +kernel
theorem dX6_readsAll_10 : decode cX6_readsAll 10 = .ok (.getfield 65, 3) := by decide +kernel
theorem dX6_readsAll_13 : decode cX6_readsAll 13 = .ok (.aload_n 0, 1) := by decide +kernel
theorem dX6_readsAll_14 : decode cX6_readsAll 14 = .ok (.getfield 61, 3) := by decide +kernel
theorem dX6_readsAll_17 : decode cX6_readsAll 17 = .ok (.if_icmp .ge 36, 3) := by decide +kernel
theorem dX6_readsAll_20 : decode cX6_readsAll 20 = .ok (.aload_n 0, 1) := by decide +kernel
theorem dX6_readsAll_21 : decode cX6_readsAll 21 = .ok (.getfield 65, 3) := by decide +kernel
theorem dX6_readsAll_24 : decode cX6_readsAll 24 = .ok (.istore_n 1, 1) := by decide +kernel
theorem dX6_readsAll_25 : decode cX6_readsAll 25 = .ok (.aload_n 0, 1) := by decide +kernel
theorem dX6_readsAll_26 : decode cX6_readsAll 26 = .ok (.dup, 1) := by decide +kernel
theorem dX6_readsAll_27 : decode cX6_readsAll 27 = .ok (.getfield 65, 3) := by decide +kernel
theorem dX6_readsAll_30 : decode cX6_readsAll 30 = .ok (.iconst 1, 1) := by decide +kernel
theorem dX6_readsAll_31 : decode cX6_readsAll 31 = .ok (.iadd, 1) := by decide +kernel
theorem dX6_readsAll_32 : decode cX6_readsAll 32 = .ok (.putfield 65, 3) := by decide +kernel
theorem dX6_readsAll_35 : decode cX6_readsAll 35 = .ok (.aload_n 0, 1) := by decide +kernel
theorem dX6_readsAll_36 : decode cX6_readsAll 36 = .ok (.aload_n 0, 1) := by decide +kernel
theorem dX6_readsAll_37 : decode cX6_readsAll 37 = .ok (.getfield 7, 3) := by decide +kernel
theorem dX6_readsAll_40 : decode cX6_readsAll 40 = .ok (.iload_n 1, 1) := by decide +kernel
theorem dX6_readsAll_41 : decode cX6_readsAll 41 = .ok (.iaload, 1) := by decide +kernel
theorem dX6_readsAll_42 : decode cX6_readsAll 42 = .ok (.invokevirtual 80, 3) := by decide +kernel
theorem dX6_readsAll_45 : decode cX6_readsAll 45 = .ok (.ifCond .ne 5, 3) := by decide +kernel
theorem dX6_readsAll_48 : decode cX6_readsAll 48 = .ok (.iload_n 1, 1) := by decide +kernel
theorem dX6_readsAll_49 : decode cX6_readsAll 49 = .ok (.ireturn, 1) := by decide +kernel
theorem dX6_readsAll_50 : decode cX6_readsAll 50 = .ok (.goto (-41), 3) := by decide +kernel
theorem dX6_readsAll_53 : decode cX6_readsAll 53 = .ok (.bipush (-4), 2) := by decide +kernel
theorem dX6_readsAll_55 : decode cX6_readsAll 55 = .ok (.ireturn, 1) := by decide +kernel
theorem dX6_fault_0 : decode cX6_fault 0 = .ok (.aload_n 0, 1) := by decide +kernel
theorem dX6_fault_1 : decode cX6_fault 1 = .ok (.invokevirtual 83, 3) := by decide +kernel
theorem dX6_fault_4 : decode cX6_fault 4 = .ok (.ireturn, 1) := by decide +kernel
theorem dX6_lays_0 : decode cX6_lays 0 = .ok (.iconst 0, 1) := by decide +kernel
theorem dX6_lays_1 : decode cX6_lays 1 = .ok (.istore_n 1, 1) := by decide +kernel
theorem dX6_lays_2 : decode cX6_lays 2 = .ok (.iload_n 1, 1) := by decide +kernel
theorem dX6_lays_3 : decode cX6_lays 3 = .ok (.bipush 39, 2) := by decide +kernel
theorem dX6_lays_5 : decode cX6_lays 5 = .ok (.if_icmp .ge 21, 3) := by decide +kernel
theorem dX6_lays_8 : decode cX6_lays 8 = .ok (.aload_n 0, 1) := by decide +kernel
theorem dX6_lays_9 : decode cX6_lays 9 = .ok (.getfield 13, 3) := by decide +kernel
theorem dX6_lays_12 : decode cX6_lays 12 = .ok (.iload_n 1, 1) := by decide +kernel
theorem dX6_lays_13 : decode cX6_lays 13 = .ok (.aload_n 0, 1) := by decide +kernel
theorem dX6_lays_14 : decode cX6_lays 14 = .ok (.getfield 16, 3) := by decide +kernel
theorem dX6_lays_17 : decode cX6_lays 17 = .ok (.iload_n 1, 1) := by decide +kernel
theorem dX6_lays_18 : decode cX6_lays 18 = .ok (.iaload, 1) := by decide +kernel
theorem dX6_lays_19 : decode cX6_lays 19 = .ok (.iastore, 1) := by decide +kernel
theorem dX6_lays_20 : decode cX6_lays 20 = .ok (.iinc 1 1, 3) := by decide +kernel
theorem dX6_lays_23 : decode cX6_lays 23 = .ok (.goto (-21), 3) := by decide +kernel
theorem dX6_lays_26 : decode cX6_lays 26 = .ok (.iconst 0, 1) := by decide +kernel
theorem dX6_lays_27 : decode cX6_lays 27 = .ok (.istore_n 1, 1) := by decide +kernel
theorem dX6_lays_28 : decode cX6_lays 28 = .ok (.iload_n 1, 1) := by decide +kernel
theorem dX6_lays_29 : decode cX6_lays 29 = .ok (.bipush 73, 2) := by decide +kernel
theorem dX6_lays_31 : decode cX6_lays 31 = .ok (.if_icmp .ge 21, 3) := by decide +kernel
theorem dX6_lays_34 : decode cX6_lays 34 = .ok (.aload_n 0, 1) := by decide +kernel
theorem dX6_lays_35 : decode cX6_lays 35 = .ok (.getfield 22, 3) := by decide +kernel
theorem dX6_lays_38 : decode cX6_lays 38 = .ok (.iload_n 1, 1) := by decide +kernel
theorem dX6_lays_39 : decode cX6_lays 39 = .ok (.aload_n 0, 1) := by decide +kernel
theorem dX6_lays_40 : decode cX6_lays 40 = .ok (.getfield 19, 3) := by decide +kernel
theorem dX6_lays_43 : decode cX6_lays 43 = .ok (.iload_n 1, 1) := by decide +kernel
theorem dX6_lays_44 : decode cX6_lays 44 = .ok (.iaload, 1) := by decide +kernel
theorem dX6_lays_45 : decode cX6_lays 45 = .ok (.iastore, 1) := by decide +kernel
theorem dX6_lays_46 : decode cX6_lays 46 = .ok (.iinc 1 1, 3) := by decide +kernel
theorem dX6_lays_49 : decode cX6_lays 49 = .ok (.goto (-21), 3) := by decide +kernel
theorem dX6_lays_52 : decode cX6_lays 52 = .ok (.iconst 0, 1) := by decide +kernel
theorem dX6_lays_53 : decode cX6_lays 53 = .ok (.istore_n 1, 1) := by decide +kernel
theorem dX6_lays_54 : decode cX6_lays 54 = .ok (.iload_n 1, 1) := by decide +kernel
theorem dX6_lays_55 : decode cX6_lays 55 = .ok (.bipush 36, 2) := by decide +kernel
theorem dX6_lays_57 : decode cX6_lays 57 = .ok (.if_icmp .ge 49, 3) := by decide +kernel
theorem dX6_lays_60 : decode cX6_lays 60 = .ok (.aload_n 0, 1) := by decide +kernel
theorem dX6_lays_61 : decode cX6_lays 61 = .ok (.getfield 22, 3) := by decide +kernel
theorem dX6_lays_64 : decode cX6_lays 64 = .ok (.iload_n 1, 1) := by decide +kernel
theorem dX6_lays_65 : decode cX6_lays 65 = .ok (.aload_n 0, 1) := by decide +kernel
theorem dX6_lays_66 : decode cX6_lays 66 = .ok (.getfield 13, 3) := by decide +kernel
theorem dX6_lays_69 : decode cX6_lays 69 = .ok (.iconst 3, 1) := by decide +kernel
theorem dX6_lays_70 : decode cX6_lays 70 = .ok (.iload_n 1, 1) := by decide +kernel
theorem dX6_lays_71 : decode cX6_lays 71 = .ok (.iadd, 1) := by decide +kernel
theorem dX6_lays_72 : decode cX6_lays 72 = .ok (.iaload, 1) := by decide +kernel
theorem dX6_lays_73 : decode cX6_lays 73 = .ok (.iconst 2, 1) := by decide +kernel
theorem dX6_lays_74 : decode cX6_lays 74 = .ok (.if_icmp .eq 15, 3) := by decide +kernel
theorem dX6_lays_77 : decode cX6_lays 77 = .ok (.aload_n 0, 1) := by decide +kernel
theorem dX6_lays_78 : decode cX6_lays 78 = .ok (.getfield 13, 3) := by decide +kernel
theorem dX6_lays_81 : decode cX6_lays 81 = .ok (.iconst 3, 1) := by decide +kernel
theorem dX6_lays_82 : decode cX6_lays 82 = .ok (.iload_n 1, 1) := by decide +kernel
theorem dX6_lays_83 : decode cX6_lays 83 = .ok (.iadd, 1) := by decide +kernel
theorem dX6_lays_84 : decode cX6_lays 84 = .ok (.iaload, 1) := by decide +kernel
theorem dX6_lays_85 : decode cX6_lays 85 = .ok (.iconst 3, 1) := by decide +kernel
theorem dX6_lays_86 : decode cX6_lays 86 = .ok (.if_icmp .ne 7, 3) := by decide +kernel
theorem dX6_lays_89 : decode cX6_lays 89 = .ok (.iconst 0, 1) := by decide +kernel
theorem dX6_lays_90 : decode cX6_lays 90 = .ok (.goto 9, 3) := by decide +kernel
theorem dX6_lays_93 : decode cX6_lays 93 = .ok (.aload_n 0, 1) := by decide +kernel
theorem dX6_lays_94 : decode cX6_lays 94 = .ok (.getfield 22, 3) := by decide +kernel
theorem dX6_lays_97 : decode cX6_lays 97 = .ok (.iload_n 1, 1) := by decide +kernel
theorem dX6_lays_98 : decode cX6_lays 98 = .ok (.iaload, 1) := by decide +kernel
theorem dX6_lays_99 : decode cX6_lays 99 = .ok (.iastore, 1) := by decide +kernel
theorem dX6_lays_100 : decode cX6_lays 100 = .ok (.iinc 1 1, 3) := by decide +kernel
theorem dX6_lays_103 : decode cX6_lays 103 = .ok (.goto (-49), 3) := by decide +kernel
theorem dX6_lays_106 : decode cX6_lays 106 = .ok (.aload_n 0, 1) := by decide +kernel
theorem dX6_lays_107 : decode cX6_lays 107 = .ok (.invokevirtual 86, 3) := by decide +kernel
theorem dX6_lays_110 : decode cX6_lays 110 = .ok (.aload_n 0, 1) := by decide +kernel
theorem dX6_lays_111 : decode cX6_lays 111 = .ok (.iconst 0, 1) := by decide +kernel
theorem dX6_lays_112 : decode cX6_lays 112 = .ok (.putfield 89, 3) := by decide +kernel
theorem dX6_lays_115 : decode cX6_lays 115 = .ok (.aload_n 0, 1) := by decide +kernel
theorem dX6_lays_116 : decode cX6_lays 116 = .ok (.iconst 0, 1) := by decide +kernel
theorem dX6_lays_117 : decode cX6_lays 117 = .ok (.putfield 92, 3) := by decide +kernel
theorem dX6_lays_120 : decode cX6_lays 120 = .ok (.aload_n 0, 1) := by decide +kernel
theorem dX6_lays_121 : decode cX6_lays 121 = .ok (.iconst 0, 1) := by decide +kernel
theorem dX6_lays_122 : decode cX6_lays 122 = .ok (.putfield 95, 3) := by decide +kernel
theorem dX6_lays_125 : decode cX6_lays 125 = .ok (.return_, 1) := by decide +kernel
theorem dX6_lay_0 : decode cX6_lay 0 = .ok (.aload_n 0, 1) := by decide +kernel
theorem dX6_lay_1 : decode cX6_lay 1 = .ok (.getfield 61, 3) := by decide +kernel
theorem dX6_lay_4 : decode cX6_lay 4 = .ok (.ifCond .eq 12, 3) := by decide +kernel
theorem dX6_lay_7 : decode cX6_lay 7 = .ok (.aload_n 0, 1) := by decide +kernel
theorem dX6_lay_8 : decode cX6_lay 8 = .ok (.invokevirtual 83, 3) := by decide +kernel
theorem dX6_lay_11 : decode cX6_lay 11 = .ok (.bipush (-4), 2) := by decide +kernel
theorem dX6_lay_13 : decode cX6_lay 13 = .ok (.if_icmp .eq 6, 3) := by decide +kernel
theorem dX6_lay_16 : decode cX6_lay 16 = .ok (.bipush (-2), 2) := by decide +kernel
theorem dX6_lay_18 : decode cX6_lay 18 = .ok (.ireturn, 1) := by decide +kernel
theorem dX6_lay_19 : decode cX6_lay 19 = .ok (.aload_n 0, 1) := by decide +kernel
theorem dX6_lay_20 : decode cX6_lay 20 = .ok (.invokevirtual 50, 3) := by decide +kernel
theorem dX6_lay_23 : decode cX6_lay 23 = .ok (.aload_n 0, 1) := by decide +kernel
theorem dX6_lay_24 : decode cX6_lay 24 = .ok (.invokevirtual 53, 3) := by decide +kernel
theorem dX6_lay_27 : decode cX6_lay 27 = .ok (.ireturn, 1) := by decide +kernel
theorem dX6_beside_0 : decode cX6_beside 0 = .ok (.aload_n 0, 1) := by decide +kernel
theorem dX6_beside_1 : decode cX6_beside 1 = .ok (.getfield 13, 3) := by decide +kernel
theorem dX6_beside_4 : decode cX6_beside 4 = .ok (.iconst 1, 1) := by decide +kernel
theorem dX6_beside_5 : decode cX6_beside 5 = .ok (.iaload, 1) := by decide +kernel
theorem dX6_beside_6 : decode cX6_beside 6 = .ok (.istore_n 3, 1) := by decide +kernel
theorem dX6_beside_7 : decode cX6_beside 7 = .ok (.iload_n 2, 1) := by decide +kernel
theorem dX6_beside_8 : decode cX6_beside 8 = .ok (.ifCond .ne 9, 3) := by decide +kernel
theorem dX6_beside_11 : decode cX6_beside 11 = .ok (.iload_n 1, 1) := by decide +kernel
theorem dX6_beside_12 : decode cX6_beside 12 = .ok (.iload_n 3, 1) := by decide +kernel
theorem dX6_beside_13 : decode cX6_beside 13 = .ok (.isub, 1) := by decide +kernel
theorem dX6_beside_14 : decode cX6_beside 14 = .ok (.goto 28, 3) := by decide +kernel
theorem dX6_beside_17 : decode cX6_beside 17 = .ok (.iload_n 2, 1) := by decide +kernel
theorem dX6_beside_18 : decode cX6_beside 18 = .ok (.iconst 1, 1) := by decide +kernel
theorem dX6_beside_19 : decode cX6_beside 19 = .ok (.if_icmp .ne 9, 3) := by decide +kernel
theorem dX6_beside_22 : decode cX6_beside 22 = .ok (.iload_n 1, 1) := by decide +kernel
theorem dX6_beside_23 : decode cX6_beside 23 = .ok (.iload_n 3, 1) := by decide +kernel
theorem dX6_beside_24 : decode cX6_beside 24 = .ok (.iadd, 1) := by decide +kernel
theorem dX6_beside_25 : decode cX6_beside 25 = .ok (.goto 17, 3) := by decide +kernel
theorem dX6_beside_28 : decode cX6_beside 28 = .ok (.iload_n 2, 1) := by decide +kernel
theorem dX6_beside_29 : decode cX6_beside 29 = .ok (.iconst 2, 1) := by decide +kernel
theorem dX6_beside_30 : decode cX6_beside 30 = .ok (.if_icmp .ne 9, 3) := by decide +kernel
theorem dX6_beside_33 : decode cX6_beside 33 = .ok (.iload_n 1, 1) := by decide +kernel
theorem dX6_beside_34 : decode cX6_beside 34 = .ok (.iconst 1, 1) := by decide +kernel
theorem dX6_beside_35 : decode cX6_beside 35 = .ok (.iadd, 1) := by decide +kernel
theorem dX6_beside_36 : decode cX6_beside 36 = .ok (.goto 6, 3) := by decide +kernel
theorem dX6_beside_39 : decode cX6_beside 39 = .ok (.iload_n 1, 1) := by decide +kernel
theorem dX6_beside_40 : decode cX6_beside 40 = .ok (.iconst 1, 1) := by decide +kernel
theorem dX6_beside_41 : decode cX6_beside 41 = .ok (.isub, 1) := by decide +kernel
theorem dX6_beside_42 : decode cX6_beside 42 = .ok (.istore 4, 2) := by decide +kernel
theorem dX6_beside_44 : decode cX6_beside 44 = .ok (.aload_n 0, 1) := by decide +kernel
theorem dX6_beside_45 : decode cX6_beside 45 = .ok (.iload 4, 2) := by decide +kernel
theorem dX6_beside_47 : decode cX6_beside 47 = .ok (.invokevirtual 98, 3) := by decide +kernel
theorem dX6_beside_50 : decode cX6_beside 50 = .ok (.ifCond .eq 31, 3) := by decide +kernel
theorem dX6_beside_53 : decode cX6_beside 53 = .ok (.iload_n 2, 1) := by decide +kernel
theorem dX6_beside_54 : decode cX6_beside 54 = .ok (.iconst 2, 1) := by decide +kernel
theorem dX6_beside_55 : decode cX6_beside 55 = .ok (.if_icmp .lt 13, 3) := by decide +kernel
theorem dX6_beside_58 : decode cX6_beside 58 = .ok (.iload 4, 2) := by decide +kernel
theorem dX6_beside_60 : decode cX6_beside 60 = .ok (.iload_n 3, 1) := by decide +kernel
theorem dX6_beside_61 : decode cX6_beside 61 = .ok (.idiv, 1) := by decide +kernel
theorem dX6_beside_62 : decode cX6_beside 62 = .ok (.iload_n 1, 1) := by decide +kernel
theorem dX6_beside_63 : decode cX6_beside 63 = .ok (.iload_n 3, 1) := by decide +kernel
theorem dX6_beside_64 : decode cX6_beside 64 = .ok (.idiv, 1) := by decide +kernel
theorem dX6_beside_65 : decode cX6_beside 65 = .ok (.if_icmp .ne 16, 3) := by decide +kernel
theorem dX6_beside_68 : decode cX6_beside 68 = .ok (.iload_n 2, 1) := by decide +kernel
theorem dX6_beside_69 : decode cX6_beside 69 = .ok (.iconst 3, 1) := by decide +kernel
theorem dX6_beside_70 : decode cX6_beside 70 = .ok (.if_icmp .lt 7, 3) := by decide +kernel
theorem dX6_beside_73 : decode cX6_beside 73 = .ok (.iload_n 1, 1) := by decide +kernel
theorem dX6_beside_74 : decode cX6_beside 74 = .ok (.ifCond .le 7, 3) := by decide +kernel
theorem dX6_beside_77 : decode cX6_beside 77 = .ok (.iconst 1, 1) := by decide +kernel
theorem dX6_beside_78 : decode cX6_beside 78 = .ok (.goto 4, 3) := by decide +kernel
theorem dX6_beside_81 : decode cX6_beside 81 = .ok (.iconst 0, 1) := by decide +kernel
theorem dX6_beside_82 : decode cX6_beside 82 = .ok (.istore 5, 2) := by decide +kernel
theorem dX6_beside_84 : decode cX6_beside 84 = .ok (.iload 5, 2) := by decide +kernel
theorem dX6_beside_86 : decode cX6_beside 86 = .ok (.ifCond .eq 21, 3) := by decide +kernel
theorem dX6_beside_89 : decode cX6_beside 89 = .ok (.aload_n 0, 1) := by decide +kernel
theorem dX6_beside_90 : decode cX6_beside 90 = .ok (.getfield 13, 3) := by decide +kernel
theorem dX6_beside_93 : decode cX6_beside 93 = .ok (.iconst 3, 1) := by decide +kernel
theorem dX6_beside_94 : decode cX6_beside 94 = .ok (.iload 4, 2) := by decide +kernel
theorem dX6_beside_96 : decode cX6_beside 96 = .ok (.iadd, 1) := by decide +kernel
theorem dX6_beside_97 : decode cX6_beside 97 = .ok (.iaload, 1) := by decide +kernel
theorem dX6_beside_98 : decode cX6_beside 98 = .ok (.iconst 3, 1) := by decide +kernel
theorem dX6_beside_99 : decode cX6_beside 99 = .ok (.if_icmp .eq 8, 3) := by decide +kernel
theorem dX6_beside_102 : decode cX6_beside 102 = .ok (.iload 4, 2) := by decide +kernel
theorem dX6_beside_104 : decode cX6_beside 104 = .ok (.goto 4, 3) := by decide +kernel
theorem dX6_beside_107 : decode cX6_beside 107 = .ok (.iconst (-1), 1) := by decide +kernel
theorem dX6_beside_108 : decode cX6_beside 108 = .ok (.ireturn, 1) := by decide +kernel
theorem dX6_level_0 : decode cX6_level 0 = .ok (.aload_n 0, 1) := by decide +kernel
theorem dX6_level_1 : decode cX6_level 1 = .ok (.getfield 22, 3) := by decide +kernel
theorem dX6_level_4 : decode cX6_level 4 = .ok (.bipush 36, 2) := by decide +kernel
theorem dX6_level_6 : decode cX6_level 6 = .ok (.iload_n 1, 1) := by decide +kernel
theorem dX6_level_7 : decode cX6_level 7 = .ok (.iadd, 1) := by decide +kernel
theorem dX6_level_8 : decode cX6_level 8 = .ok (.iaload, 1) := by decide +kernel
theorem dX6_level_9 : decode cX6_level 9 = .ok (.aload_n 0, 1) := by decide +kernel
theorem dX6_level_10 : decode cX6_level 10 = .ok (.getfield 22, 3) := by decide +kernel
theorem dX6_level_13 : decode cX6_level 13 = .ok (.iload_n 1, 1) := by decide +kernel
theorem dX6_level_14 : decode cX6_level 14 = .ok (.iaload, 1) := by decide +kernel
theorem dX6_level_15 : decode cX6_level 15 = .ok (.iadd, 1) := by decide +kernel
theorem dX6_level_16 : decode cX6_level 16 = .ok (.ireturn, 1) := by decide +kernel
theorem dX6_drops_0 : decode cX6_drops 0 = .ok (.aload_n 0, 1) := by decide +kernel
theorem dX6_drops_1 : decode cX6_drops 1 = .ok (.getfield 22, 3) := by decide +kernel
theorem dX6_drops_4 : decode cX6_drops 4 = .ok (.iload_n 1, 1) := by decide +kernel
theorem dX6_drops_5 : decode cX6_drops 5 = .ok (.dup2, 1) := by decide +kernel
theorem dX6_drops_6 : decode cX6_drops 6 = .ok (.iaload, 1) := by decide +kernel
theorem dX6_drops_7 : decode cX6_drops 7 = .ok (.iconst 1, 1) := by decide +kernel
theorem dX6_drops_8 : decode cX6_drops 8 = .ok (.isub, 1) := by decide +kernel
theorem dX6_drops_9 : decode cX6_drops 9 = .ok (.iastore, 1) := by decide +kernel
theorem dX6_drops_10 : decode cX6_drops 10 = .ok (.aload_n 0, 1) := by decide +kernel
theorem dX6_drops_11 : decode cX6_drops 11 = .ok (.getfield 22, 3) := by decide +kernel
theorem dX6_drops_14 : decode cX6_drops 14 = .ok (.iload_n 2, 1) := by decide +kernel
theorem dX6_drops_15 : decode cX6_drops 15 = .ok (.dup2, 1) := by decide +kernel
theorem dX6_drops_16 : decode cX6_drops 16 = .ok (.iaload, 1) := by decide +kernel
theorem dX6_drops_17 : decode cX6_drops 17 = .ok (.aload_n 0, 1) := by decide +kernel
theorem dX6_drops_18 : decode cX6_drops 18 = .ok (.getfield 13, 3) := by decide +kernel
theorem dX6_drops_21 : decode cX6_drops 21 = .ok (.iconst 3, 1) := by decide +kernel
theorem dX6_drops_22 : decode cX6_drops 22 = .ok (.iload_n 2, 1) := by decide +kernel
theorem dX6_drops_23 : decode cX6_drops 23 = .ok (.iadd, 1) := by decide +kernel
theorem dX6_drops_24 : decode cX6_drops 24 = .ok (.iaload, 1) := by decide +kernel
theorem dX6_drops_25 : decode cX6_drops 25 = .ok (.iconst 2, 1) := by decide +kernel
theorem dX6_drops_26 : decode cX6_drops 26 = .ok (.if_icmp .eq 18, 3) := by decide +kernel
theorem dX6_drops_29 : decode cX6_drops 29 = .ok (.aload_n 0, 1) := by decide +kernel
theorem dX6_drops_30 : decode cX6_drops 30 = .ok (.getfield 22, 3) := by decide +kernel
theorem dX6_drops_33 : decode cX6_drops 33 = .ok (.iload_n 2, 1) := by decide +kernel
theorem dX6_drops_34 : decode cX6_drops 34 = .ok (.iaload, 1) := by decide +kernel
theorem dX6_drops_35 : decode cX6_drops 35 = .ok (.bipush 60, 2) := by decide +kernel
theorem dX6_drops_37 : decode cX6_drops 37 = .ok (.if_icmp .ge 7, 3) := by decide +kernel
theorem dX6_drops_40 : decode cX6_drops 40 = .ok (.iconst 1, 1) := by decide +kernel
theorem dX6_drops_41 : decode cX6_drops 41 = .ok (.goto 4, 3) := by decide +kernel
theorem dX6_drops_44 : decode cX6_drops 44 = .ok (.iconst 0, 1) := by decide +kernel
theorem dX6_drops_45 : decode cX6_drops 45 = .ok (.iadd, 1) := by decide +kernel
theorem dX6_drops_46 : decode cX6_drops 46 = .ok (.iastore, 1) := by decide +kernel
theorem dX6_drops_47 : decode cX6_drops 47 = .ok (.return_, 1) := by decide +kernel
theorem dX6_sends_0 : decode cX6_sends 0 = .ok (.iconst (-1), 1) := by decide +kernel
theorem dX6_sends_1 : decode cX6_sends 1 = .ok (.istore_n 2, 1) := by decide +kernel
theorem dX6_sends_2 : decode cX6_sends 2 = .ok (.iconst 3, 1) := by decide +kernel
theorem dX6_sends_3 : decode cX6_sends 3 = .ok (.istore_n 3, 1) := by decide +kernel
theorem dX6_sends_4 : decode cX6_sends 4 = .ok (.iload_n 3, 1) := by decide +kernel
theorem dX6_sends_5 : decode cX6_sends 5 = .ok (.ifCond .lt 110, 3) := by decide +kernel
theorem dX6_sends_8 : decode cX6_sends 8 = .ok (.aload_n 0, 1) := by decide +kernel
theorem dX6_sends_9 : decode cX6_sends 9 = .ok (.getfield 22, 3) := by decide +kernel
theorem dX6_sends_12 : decode cX6_sends 12 = .ok (.iload_n 1, 1) := by decide +kernel
theorem dX6_sends_13 : decode cX6_sends 13 = .ok (.iaload, 1) := by decide +kernel
theorem dX6_sends_14 : decode cX6_sends 14 = .ok (.ifCond .le 101, 3) := by decide +kernel
theorem dX6_sends_17 : decode cX6_sends 17 = .ok (.aload_n 0, 1) := by decide +kernel
theorem dX6_sends_18 : decode cX6_sends 18 = .ok (.iload_n 1, 1) := by decide +kernel
theorem dX6_sends_19 : decode cX6_sends 19 = .ok (.iload_n 3, 1) := by decide +kernel
theorem dX6_sends_20 : decode cX6_sends 20 = .ok (.invokevirtual 101, 3) := by decide +kernel
theorem dX6_sends_23 : decode cX6_sends 23 = .ok (.istore 4, 2) := by decide +kernel
theorem dX6_sends_25 : decode cX6_sends 25 = .ok (.iload 4, 2) := by decide +kernel
theorem dX6_sends_27 : decode cX6_sends 27 = .ok (.ifCond .lt 16, 3) := by decide +kernel
theorem dX6_sends_30 : decode cX6_sends 30 = .ok (.aload_n 0, 1) := by decide +kernel
theorem dX6_sends_31 : decode cX6_sends 31 = .ok (.getfield 13, 3) := by decide +kernel
theorem dX6_sends_34 : decode cX6_sends 34 = .ok (.iconst 3, 1) := by decide +kernel
theorem dX6_sends_35 : decode cX6_sends 35 = .ok (.iload 4, 2) := by decide +kernel
theorem dX6_sends_37 : decode cX6_sends 37 = .ok (.iadd, 1) := by decide +kernel
theorem dX6_sends_38 : decode cX6_sends 38 = .ok (.iaload, 1) := by decide +kernel
theorem dX6_sends_39 : decode cX6_sends 39 = .ok (.iconst 2, 1) := by decide +kernel
theorem dX6_sends_40 : decode cX6_sends 40 = .ok (.if_icmp .ne 7, 3) := by decide +kernel
theorem dX6_sends_43 : decode cX6_sends 43 = .ok (.iconst 1, 1) := by decide +kernel
theorem dX6_sends_44 : decode cX6_sends 44 = .ok (.goto 4, 3) := by decide +kernel
theorem dX6_sends_47 : decode cX6_sends 47 = .ok (.iconst 2, 1) := by decide +kernel
theorem dX6_sends_48 : decode cX6_sends 48 = .ok (.istore 5, 2) := by decide +kernel
theorem dX6_sends_50 : decode cX6_sends 50 = .ok (.iload 4, 2) := by decide +kernel
theorem dX6_sends_52 : decode cX6_sends 52 = .ok (.ifCond .lt 24, 3) := by decide +kernel
theorem dX6_sends_55 : decode cX6_sends 55 = .ok (.aload_n 0, 1) := by decide +kernel
theorem dX6_sends_56 : decode cX6_sends 56 = .ok (.iload 4, 2) := by decide +kernel
theorem dX6_sends_58 : decode cX6_sends 58 = .ok (.invokevirtual 105, 3) := by decide +kernel
theorem dX6_sends_61 : decode cX6_sends 61 = .ok (.iload 5, 2) := by decide +kernel
theorem dX6_sends_63 : decode cX6_sends 63 = .ok (.iadd, 1) := by decide +kernel
theorem dX6_sends_64 : decode cX6_sends 64 = .ok (.aload_n 0, 1) := by decide +kernel
theorem dX6_sends_65 : decode cX6_sends 65 = .ok (.iload_n 1, 1) := by decide +kernel
theorem dX6_sends_66 : decode cX6_sends 66 = .ok (.invokevirtual 105, 3) := by decide +kernel
theorem dX6_sends_69 : decode cX6_sends 69 = .ok (.if_icmp .gt 7, 3) := by decide +kernel
theorem dX6_sends_72 : decode cX6_sends 72 = .ok (.iconst 1, 1) := by decide +kernel
theorem dX6_sends_73 : decode cX6_sends 73 = .ok (.goto 4, 3) := by decide +kernel
theorem dX6_sends_76 : decode cX6_sends 76 = .ok (.iconst 0, 1) := by decide +kernel
theorem dX6_sends_77 : decode cX6_sends 77 = .ok (.istore 6, 2) := by decide +kernel
theorem dX6_sends_79 : decode cX6_sends 79 = .ok (.iload 6, 2) := by decide +kernel
theorem dX6_sends_81 : decode cX6_sends 81 = .ok (.ifCond .eq 26, 3) := by decide +kernel
theorem dX6_sends_84 : decode cX6_sends 84 = .ok (.iload_n 2, 1) := by decide +kernel
theorem dX6_sends_85 : decode cX6_sends 85 = .ok (.ifCond .lt 17, 3) := by decide +kernel
theorem dX6_sends_88 : decode cX6_sends 88 = .ok (.aload_n 0, 1) := by decide +kernel
theorem dX6_sends_89 : decode cX6_sends 89 = .ok (.iload 4, 2) := by decide +kernel
theorem dX6_sends_91 : decode cX6_sends 91 = .ok (.invokevirtual 105, 3) := by decide +kernel
theorem dX6_sends_94 : decode cX6_sends 94 = .ok (.aload_n 0, 1) := by decide +kernel
theorem dX6_sends_95 : decode cX6_sends 95 = .ok (.iload_n 2, 1) := by decide +kernel
theorem dX6_sends_96 : decode cX6_sends 96 = .ok (.invokevirtual 105, 3) := by decide +kernel
theorem dX6_sends_99 : decode cX6_sends 99 = .ok (.if_icmp .gt 8, 3) := by decide +kernel
theorem dX6_sends_102 : decode cX6_sends 102 = .ok (.iload 4, 2) := by decide +kernel
theorem dX6_sends_104 : decode cX6_sends 104 = .ok (.goto 4, 3) := by decide +kernel
theorem dX6_sends_107 : decode cX6_sends 107 = .ok (.iload_n 2, 1) := by decide +kernel
theorem dX6_sends_108 : decode cX6_sends 108 = .ok (.istore_n 2, 1) := by decide +kernel
theorem dX6_sends_109 : decode cX6_sends 109 = .ok (.iinc 3 (-1), 3) := by decide +kernel
theorem dX6_sends_112 : decode cX6_sends 112 = .ok (.goto (-108), 3) := by decide +kernel
theorem dX6_sends_115 : decode cX6_sends 115 = .ok (.iload_n 2, 1) := by decide +kernel
theorem dX6_sends_116 : decode cX6_sends 116 = .ok (.ifCond .lt 9, 3) := by decide +kernel
theorem dX6_sends_119 : decode cX6_sends 119 = .ok (.aload_n 0, 1) := by decide +kernel
theorem dX6_sends_120 : decode cX6_sends 120 = .ok (.iload_n 1, 1) := by decide +kernel
theorem dX6_sends_121 : decode cX6_sends 121 = .ok (.iload_n 2, 1) := by decide +kernel
theorem dX6_sends_122 : decode cX6_sends 122 = .ok (.invokevirtual 108, 3) := by decide +kernel
theorem dX6_sends_125 : decode cX6_sends 125 = .ok (.iload_n 2, 1) := by decide +kernel
theorem dX6_sends_126 : decode cX6_sends 126 = .ok (.ifCond .lt 7, 3) := by decide +kernel
theorem dX6_sends_129 : decode cX6_sends 129 = .ok (.iconst 1, 1) := by decide +kernel
theorem dX6_sends_130 : decode cX6_sends 130 = .ok (.goto 4, 3) := by decide +kernel
theorem dX6_sends_133 : decode cX6_sends 133 = .ok (.iconst 0, 1) := by decide +kernel
theorem dX6_sends_134 : decode cX6_sends 134 = .ok (.ireturn, 1) := by decide +kernel
theorem dX6_flows_0 : decode cX6_flows 0 = .ok (.iconst 1, 1) := by decide +kernel
theorem dX6_flows_1 : decode cX6_flows 1 = .ok (.istore_n 1, 1) := by decide +kernel
theorem dX6_flows_2 : decode cX6_flows 2 = .ok (.iload_n 1, 1) := by decide +kernel
theorem dX6_flows_3 : decode cX6_flows 3 = .ok (.ifCond .eq 44, 3) := by decide +kernel
theorem dX6_flows_6 : decode cX6_flows 6 = .ok (.iconst 0, 1) := by decide +kernel
theorem dX6_flows_7 : decode cX6_flows 7 = .ok (.istore_n 1, 1) := by decide +kernel
theorem dX6_flows_8 : decode cX6_flows 8 = .ok (.iconst 0, 1) := by decide +kernel
theorem dX6_flows_9 : decode cX6_flows 9 = .ok (.istore_n 2, 1) := by decide +kernel
theorem dX6_flows_10 : decode cX6_flows 10 = .ok (.iload_n 2, 1) := by decide +kernel
theorem dX6_flows_11 : decode cX6_flows 11 = .ok (.aload_n 0, 1) := by decide +kernel
theorem dX6_flows_12 : decode cX6_flows 12 = .ok (.invokevirtual 53, 3) := by decide +kernel
theorem dX6_flows_15 : decode cX6_flows 15 = .ok (.if_icmp .ge 29, 3) := by decide +kernel
theorem dX6_flows_18 : decode cX6_flows 18 = .ok (.aload_n 0, 1) := by decide +kernel
theorem dX6_flows_19 : decode cX6_flows 19 = .ok (.iload_n 2, 1) := by decide +kernel
theorem dX6_flows_20 : decode cX6_flows 20 = .ok (.invokevirtual 112, 3) := by decide +kernel
theorem dX6_flows_23 : decode cX6_flows 23 = .ok (.istore_n 3, 1) := by decide +kernel
theorem dX6_flows_24 : decode cX6_flows 24 = .ok (.iload_n 1, 1) := by decide +kernel
theorem dX6_flows_25 : decode cX6_flows 25 = .ok (.ifCond .ne 7, 3) := by decide +kernel
theorem dX6_flows_28 : decode cX6_flows 28 = .ok (.iload_n 3, 1) := by decide +kernel
theorem dX6_flows_29 : decode cX6_flows 29 = .ok (.ifCond .eq 7, 3) := by decide +kernel
theorem dX6_flows_32 : decode cX6_flows 32 = .ok (.iconst 1, 1) := by decide +kernel
theorem dX6_flows_33 : decode cX6_flows 33 = .ok (.goto 4, 3) := by decide +kernel
theorem dX6_flows_36 : decode cX6_flows 36 = .ok (.iconst 0, 1) := by decide +kernel
theorem dX6_flows_37 : decode cX6_flows 37 = .ok (.istore_n 1, 1) := by decide +kernel
theorem dX6_flows_38 : decode cX6_flows 38 = .ok (.iinc 2 1, 3) := by decide +kernel
theorem dX6_flows_41 : decode cX6_flows 41 = .ok (.goto (-31), 3) := by decide +kernel
theorem dX6_flows_44 : decode cX6_flows 44 = .ok (.goto (-42), 3) := by decide +kernel
theorem dX6_flows_47 : decode cX6_flows 47 = .ok (.return_, 1) := by decide +kernel
theorem dX6_isOpen_0 : decode cX6_isOpen 0 = .ok (.aload_n 0, 1) := by decide +kernel
theorem dX6_isOpen_1 : decode cX6_isOpen 1 = .ok (.getfield 13, 3) := by decide +kernel
theorem dX6_isOpen_4 : decode cX6_isOpen 4 = .ok (.iconst 3, 1) := by decide +kernel
theorem dX6_isOpen_5 : decode cX6_isOpen 5 = .ok (.iload_n 1, 1) := by decide +kernel
theorem dX6_isOpen_6 : decode cX6_isOpen 6 = .ok (.iadd, 1) := by decide +kernel
theorem dX6_isOpen_7 : decode cX6_isOpen 7 = .ok (.iaload, 1) := by decide +kernel
theorem dX6_isOpen_8 : decode cX6_isOpen 8 = .ok (.iconst 2, 1) := by decide +kernel
theorem dX6_isOpen_9 : decode cX6_isOpen 9 = .ok (.if_icmp .eq 19, 3) := by decide +kernel
theorem dX6_isOpen_12 : decode cX6_isOpen 12 = .ok (.aload_n 0, 1) := by decide +kernel
theorem dX6_isOpen_13 : decode cX6_isOpen 13 = .ok (.getfield 13, 3) := by decide +kernel
theorem dX6_isOpen_16 : decode cX6_isOpen 16 = .ok (.iconst 3, 1) := by decide +kernel
theorem dX6_isOpen_17 : decode cX6_isOpen 17 = .ok (.iload_n 1, 1) := by decide +kernel
theorem dX6_isOpen_18 : decode cX6_isOpen 18 = .ok (.iadd, 1) := by decide +kernel
theorem dX6_isOpen_19 : decode cX6_isOpen 19 = .ok (.iaload, 1) := by decide +kernel
theorem dX6_isOpen_20 : decode cX6_isOpen 20 = .ok (.iconst 3, 1) := by decide +kernel
theorem dX6_isOpen_21 : decode cX6_isOpen 21 = .ok (.if_icmp .eq 7, 3) := by decide +kernel
theorem dX6_isOpen_24 : decode cX6_isOpen 24 = .ok (.iconst 1, 1) := by decide +kernel
theorem dX6_isOpen_25 : decode cX6_isOpen 25 = .ok (.goto 4, 3) := by decide +kernel
theorem dX6_isOpen_28 : decode cX6_isOpen 28 = .ok (.iconst 0, 1) := by decide +kernel
theorem dX6_isOpen_29 : decode cX6_isOpen 29 = .ok (.ireturn, 1) := by decide +kernel
theorem dX6_pours_0 : decode cX6_pours 0 = .ok (.iconst 0, 1) := by decide +kernel
theorem dX6_pours_1 : decode cX6_pours 1 = .ok (.istore_n 2, 1) := by decide +kernel
theorem dX6_pours_2 : decode cX6_pours 2 = .ok (.iload_n 2, 1) := by decide +kernel
theorem dX6_pours_3 : decode cX6_pours 3 = .ok (.aload_n 0, 1) := by decide +kernel
theorem dX6_pours_4 : decode cX6_pours 4 = .ok (.invokevirtual 53, 3) := by decide +kernel
theorem dX6_pours_7 : decode cX6_pours 7 = .ok (.if_icmp .ge 53, 3) := by decide +kernel
theorem dX6_pours_10 : decode cX6_pours 10 = .ok (.aload_n 0, 1) := by decide +kernel
theorem dX6_pours_11 : decode cX6_pours 11 = .ok (.getfield 22, 3) := by decide +kernel
theorem dX6_pours_14 : decode cX6_pours 14 = .ok (.iload_n 2, 1) := by decide +kernel
theorem dX6_pours_15 : decode cX6_pours 15 = .ok (.aload_n 0, 1) := by decide +kernel
theorem dX6_pours_16 : decode cX6_pours 16 = .ok (.iload_n 2, 1) := by decide +kernel
theorem dX6_pours_17 : decode cX6_pours 17 = .ok (.invokevirtual 115, 3) := by decide +kernel
theorem dX6_pours_20 : decode cX6_pours 20 = .ok (.ifCond .ne 7, 3) := by decide +kernel
theorem dX6_pours_23 : decode cX6_pours 23 = .ok (.iconst 0, 1) := by decide +kernel
theorem dX6_pours_24 : decode cX6_pours 24 = .ok (.goto 29, 3) := by decide +kernel
theorem dX6_pours_27 : decode cX6_pours 27 = .ok (.aload_n 0, 1) := by decide +kernel
theorem dX6_pours_28 : decode cX6_pours 28 = .ok (.getfield 22, 3) := by decide +kernel
theorem dX6_pours_31 : decode cX6_pours 31 = .ok (.iload_n 2, 1) := by decide +kernel
theorem dX6_pours_32 : decode cX6_pours 32 = .ok (.iaload, 1) := by decide +kernel
theorem dX6_pours_33 : decode cX6_pours 33 = .ok (.iload_n 1, 1) := by decide +kernel
theorem dX6_pours_34 : decode cX6_pours 34 = .ok (.iadd, 1) := by decide +kernel
theorem dX6_pours_35 : decode cX6_pours 35 = .ok (.bipush 60, 2) := by decide +kernel
theorem dX6_pours_37 : decode cX6_pours 37 = .ok (.if_icmp .le 8, 3) := by decide +kernel
theorem dX6_pours_40 : decode cX6_pours 40 = .ok (.bipush 60, 2) := by decide +kernel
theorem dX6_pours_42 : decode cX6_pours 42 = .ok (.goto 11, 3) := by decide +kernel
theorem dX6_pours_45 : decode cX6_pours 45 = .ok (.aload_n 0, 1) := by decide +kernel
theorem dX6_pours_46 : decode cX6_pours 46 = .ok (.getfield 22, 3) := by decide +kernel
theorem dX6_pours_49 : decode cX6_pours 49 = .ok (.iload_n 2, 1) := by decide +kernel
theorem dX6_pours_50 : decode cX6_pours 50 = .ok (.iaload, 1) := by decide +kernel
theorem dX6_pours_51 : decode cX6_pours 51 = .ok (.iload_n 1, 1) := by decide +kernel
theorem dX6_pours_52 : decode cX6_pours 52 = .ok (.iadd, 1) := by decide +kernel
theorem dX6_pours_53 : decode cX6_pours 53 = .ok (.iastore, 1) := by decide +kernel
theorem dX6_pours_54 : decode cX6_pours 54 = .ok (.iinc 2 1, 3) := by decide +kernel
theorem dX6_pours_57 : decode cX6_pours 57 = .ok (.goto (-55), 3) := by decide +kernel
theorem dX6_pours_60 : decode cX6_pours 60 = .ok (.aload_n 0, 1) := by decide +kernel
theorem dX6_pours_61 : decode cX6_pours 61 = .ok (.invokevirtual 86, 3) := by decide +kernel
theorem dX6_pours_64 : decode cX6_pours 64 = .ok (.return_, 1) := by decide +kernel
theorem dX6_shines_0 : decode cX6_shines 0 = .ok (.aload_n 0, 1) := by decide +kernel
theorem dX6_shines_1 : decode cX6_shines 1 = .ok (.getfield 22, 3) := by decide +kernel
theorem dX6_shines_4 : decode cX6_shines 4 = .ok (.bipush 72, 2) := by decide +kernel
theorem dX6_shines_6 : decode cX6_shines 6 = .ok (.dup2, 1) := by decide +kernel
theorem dX6_shines_7 : decode cX6_shines 7 = .ok (.iaload, 1) := by decide +kernel
theorem dX6_shines_8 : decode cX6_shines 8 = .ok (.iconst 1, 1) := by decide +kernel
theorem dX6_shines_9 : decode cX6_shines 9 = .ok (.iadd, 1) := by decide +kernel
theorem dX6_shines_10 : decode cX6_shines 10 = .ok (.iastore, 1) := by decide +kernel
theorem dX6_shines_11 : decode cX6_shines 11 = .ok (.iconst 0, 1) := by decide +kernel
theorem dX6_shines_12 : decode cX6_shines 12 = .ok (.istore_n 1, 1) := by decide +kernel
theorem dX6_shines_13 : decode cX6_shines 13 = .ok (.iload_n 1, 1) := by decide +kernel
theorem dX6_shines_14 : decode cX6_shines 14 = .ok (.aload_n 0, 1) := by decide +kernel
theorem dX6_shines_15 : decode cX6_shines 15 = .ok (.invokevirtual 53, 3) := by decide +kernel
theorem dX6_shines_18 : decode cX6_shines 18 = .ok (.if_icmp .ge 66, 3) := by decide +kernel
theorem dX6_shines_21 : decode cX6_shines 21 = .ok (.aload_n 0, 1) := by decide +kernel
theorem dX6_shines_22 : decode cX6_shines 22 = .ok (.getfield 22, 3) := by decide +kernel
theorem dX6_shines_25 : decode cX6_shines 25 = .ok (.iload_n 1, 1) := by decide +kernel
theorem dX6_shines_26 : decode cX6_shines 26 = .ok (.iaload, 1) := by decide +kernel
theorem dX6_shines_27 : decode cX6_shines 27 = .ok (.ifCond .le 31, 3) := by decide +kernel
theorem dX6_shines_30 : decode cX6_shines 30 = .ok (.aload_n 0, 1) := by decide +kernel
theorem dX6_shines_31 : decode cX6_shines 31 = .ok (.getfield 13, 3) := by decide +kernel
theorem dX6_shines_34 : decode cX6_shines 34 = .ok (.iconst 3, 1) := by decide +kernel
theorem dX6_shines_35 : decode cX6_shines 35 = .ok (.iload_n 1, 1) := by decide +kernel
theorem dX6_shines_36 : decode cX6_shines 36 = .ok (.iadd, 1) := by decide +kernel
theorem dX6_shines_37 : decode cX6_shines 37 = .ok (.iaload, 1) := by decide +kernel
theorem dX6_shines_38 : decode cX6_shines 38 = .ok (.iconst 1, 1) := by decide +kernel
theorem dX6_shines_39 : decode cX6_shines 39 = .ok (.if_icmp .ne 15, 3) := by decide +kernel
theorem dX6_shines_42 : decode cX6_shines 42 = .ok (.aload_n 0, 1) := by decide +kernel
theorem dX6_shines_43 : decode cX6_shines 43 = .ok (.getfield 22, 3) := by decide +kernel
theorem dX6_shines_46 : decode cX6_shines 46 = .ok (.bipush 72, 2) := by decide +kernel
theorem dX6_shines_48 : decode cX6_shines 48 = .ok (.iaload, 1) := by decide +kernel
theorem dX6_shines_49 : decode cX6_shines 49 = .ok (.iconst 2, 1) := by decide +kernel
theorem dX6_shines_50 : decode cX6_shines 50 = .ok (.irem, 1) := by decide +kernel
theorem dX6_shines_51 : decode cX6_shines 51 = .ok (.ifCond .ne 7, 3) := by decide +kernel
theorem dX6_shines_54 : decode cX6_shines 54 = .ok (.iconst 1, 1) := by decide +kernel
theorem dX6_shines_55 : decode cX6_shines 55 = .ok (.goto 4, 3) := by decide +kernel
theorem dX6_shines_58 : decode cX6_shines 58 = .ok (.iconst 0, 1) := by decide +kernel
theorem dX6_shines_59 : decode cX6_shines 59 = .ok (.istore_n 2, 1) := by decide +kernel
theorem dX6_shines_60 : decode cX6_shines 60 = .ok (.aload_n 0, 1) := by decide +kernel
theorem dX6_shines_61 : decode cX6_shines 61 = .ok (.getfield 22, 3) := by decide +kernel
theorem dX6_shines_64 : decode cX6_shines 64 = .ok (.iload_n 1, 1) := by decide +kernel
theorem dX6_shines_65 : decode cX6_shines 65 = .ok (.dup2, 1) := by decide +kernel
theorem dX6_shines_66 : decode cX6_shines 66 = .ok (.iaload, 1) := by decide +kernel
theorem dX6_shines_67 : decode cX6_shines 67 = .ok (.iload_n 2, 1) := by decide +kernel
theorem dX6_shines_68 : decode cX6_shines 68 = .ok (.ifCond .eq 7, 3) := by decide +kernel
theorem dX6_shines_71 : decode cX6_shines 71 = .ok (.iconst 1, 1) := by decide +kernel
theorem dX6_shines_72 : decode cX6_shines 72 = .ok (.goto 4, 3) := by decide +kernel
theorem dX6_shines_75 : decode cX6_shines 75 = .ok (.iconst 0, 1) := by decide +kernel
theorem dX6_shines_76 : decode cX6_shines 76 = .ok (.isub, 1) := by decide +kernel
theorem dX6_shines_77 : decode cX6_shines 77 = .ok (.iastore, 1) := by decide +kernel
theorem dX6_shines_78 : decode cX6_shines 78 = .ok (.iinc 1 1, 3) := by decide +kernel
theorem dX6_shines_81 : decode cX6_shines 81 = .ok (.goto (-68), 3) := by decide +kernel
theorem dX6_shines_84 : decode cX6_shines 84 = .ok (.iconst 0, 1) := by decide +kernel
theorem dX6_shines_85 : decode cX6_shines 85 = .ok (.istore_n 1, 1) := by decide +kernel
theorem dX6_shines_86 : decode cX6_shines 86 = .ok (.iload_n 1, 1) := by decide +kernel
theorem dX6_shines_87 : decode cX6_shines 87 = .ok (.aload_n 0, 1) := by decide +kernel
theorem dX6_shines_88 : decode cX6_shines 88 = .ok (.invokevirtual 53, 3) := by decide +kernel
theorem dX6_shines_91 : decode cX6_shines 91 = .ok (.if_icmp .ge 46, 3) := by decide +kernel
theorem dX6_shines_94 : decode cX6_shines 94 = .ok (.aload_n 0, 1) := by decide +kernel
theorem dX6_shines_95 : decode cX6_shines 95 = .ok (.getfield 22, 3) := by decide +kernel
theorem dX6_shines_98 : decode cX6_shines 98 = .ok (.iload_n 1, 1) := by decide +kernel
theorem dX6_shines_99 : decode cX6_shines 99 = .ok (.dup2, 1) := by decide +kernel
theorem dX6_shines_100 : decode cX6_shines 100 = .ok (.iaload, 1) := by decide +kernel
theorem dX6_shines_101 : decode cX6_shines 101 = .ok (.aload_n 0, 1) := by decide +kernel
theorem dX6_shines_102 : decode cX6_shines 102 = .ok (.getfield 13, 3) := by decide +kernel
theorem dX6_shines_105 : decode cX6_shines 105 = .ok (.iconst 3, 1) := by decide +kernel
theorem dX6_shines_106 : decode cX6_shines 106 = .ok (.iload_n 1, 1) := by decide +kernel
theorem dX6_shines_107 : decode cX6_shines 107 = .ok (.iadd, 1) := by decide +kernel
theorem dX6_shines_108 : decode cX6_shines 108 = .ok (.iaload, 1) := by decide +kernel
theorem dX6_shines_109 : decode cX6_shines 109 = .ok (.iconst 4, 1) := by decide +kernel
theorem dX6_shines_110 : decode cX6_shines 110 = .ok (.if_icmp .ne 18, 3) := by decide +kernel
theorem dX6_shines_113 : decode cX6_shines 113 = .ok (.aload_n 0, 1) := by decide +kernel
theorem dX6_shines_114 : decode cX6_shines 114 = .ok (.getfield 22, 3) := by decide +kernel
theorem dX6_shines_117 : decode cX6_shines 117 = .ok (.iload_n 1, 1) := by decide +kernel
theorem dX6_shines_118 : decode cX6_shines 118 = .ok (.iaload, 1) := by decide +kernel
theorem dX6_shines_119 : decode cX6_shines 119 = .ok (.bipush 60, 2) := by decide +kernel
theorem dX6_shines_121 : decode cX6_shines 121 = .ok (.if_icmp .ge 7, 3) := by decide +kernel
theorem dX6_shines_124 : decode cX6_shines 124 = .ok (.iconst 1, 1) := by decide +kernel
theorem dX6_shines_125 : decode cX6_shines 125 = .ok (.goto 4, 3) := by decide +kernel
theorem dX6_shines_128 : decode cX6_shines 128 = .ok (.iconst 0, 1) := by decide +kernel
theorem dX6_shines_129 : decode cX6_shines 129 = .ok (.iadd, 1) := by decide +kernel
theorem dX6_shines_130 : decode cX6_shines 130 = .ok (.iastore, 1) := by decide +kernel
theorem dX6_shines_131 : decode cX6_shines 131 = .ok (.iinc 1 1, 3) := by decide +kernel
theorem dX6_shines_134 : decode cX6_shines 134 = .ok (.goto (-48), 3) := by decide +kernel
theorem dX6_shines_137 : decode cX6_shines 137 = .ok (.aload_n 0, 1) := by decide +kernel
theorem dX6_shines_138 : decode cX6_shines 138 = .ok (.invokevirtual 86, 3) := by decide +kernel
theorem dX6_shines_141 : decode cX6_shines 141 = .ok (.return_, 1) := by decide +kernel
theorem dX6_laysStates_0 : decode cX6_laysStates 0 = .ok (.iconst 0, 1) := by decide +kernel
theorem dX6_laysStates_1 : decode cX6_laysStates 1 = .ok (.istore_n 1, 1) := by decide +kernel
theorem dX6_laysStates_2 : decode cX6_laysStates 2 = .ok (.iload_n 1, 1) := by decide +kernel
theorem dX6_laysStates_3 : decode cX6_laysStates 3 = .ok (.aload_n 0, 1) := by decide +kernel
theorem dX6_laysStates_4 : decode cX6_laysStates 4 = .ok (.invokevirtual 53, 3) := by decide +kernel
theorem dX6_laysStates_7 : decode cX6_laysStates 7 = .ok (.if_icmp .ge 29, 3) := by decide +kernel
theorem dX6_laysStates_10 : decode cX6_laysStates 10 = .ok (.aload_n 0, 1) := by decide +kernel
theorem dX6_laysStates_11 : decode cX6_laysStates 11 = .ok (.getfield 34, 3) := by decide +kernel
theorem dX6_laysStates_14 : decode cX6_laysStates 14 = .ok (.iload_n 1, 1) := by decide +kernel
theorem dX6_laysStates_15 : decode cX6_laysStates 15 = .ok (.aload_n 0, 1) := by decide +kernel
theorem dX6_laysStates_16 : decode cX6_laysStates 16 = .ok (.getfield 22, 3) := by decide +kernel
theorem dX6_laysStates_19 : decode cX6_laysStates 19 = .ok (.iload_n 1, 1) := by decide +kernel
theorem dX6_laysStates_20 : decode cX6_laysStates 20 = .ok (.iaload, 1) := by decide +kernel
theorem dX6_laysStates_21 : decode cX6_laysStates 21 = .ok (.ifCond .le 7, 3) := by decide +kernel
theorem dX6_laysStates_24 : decode cX6_laysStates 24 = .ok (.iload_n 1, 1) := by decide +kernel
theorem dX6_laysStates_25 : decode cX6_laysStates 25 = .ok (.goto 4, 3) := by decide +kernel
theorem dX6_laysStates_28 : decode cX6_laysStates 28 = .ok (.iconst (-1), 1) := by decide +kernel
theorem dX6_laysStates_29 : decode cX6_laysStates 29 = .ok (.iastore, 1) := by decide +kernel
theorem dX6_laysStates_30 : decode cX6_laysStates 30 = .ok (.iinc 1 1, 3) := by decide +kernel
theorem dX6_laysStates_33 : decode cX6_laysStates 33 = .ok (.goto (-31), 3) := by decide +kernel
theorem dX6_laysStates_36 : decode cX6_laysStates 36 = .ok (.iconst 1, 1) := by decide +kernel
theorem dX6_laysStates_37 : decode cX6_laysStates 37 = .ok (.istore_n 1, 1) := by decide +kernel
theorem dX6_laysStates_38 : decode cX6_laysStates 38 = .ok (.iload_n 1, 1) := by decide +kernel
theorem dX6_laysStates_39 : decode cX6_laysStates 39 = .ok (.ifCond .eq 100, 3) := by decide +kernel
theorem dX6_laysStates_42 : decode cX6_laysStates 42 = .ok (.iconst 0, 1) := by decide +kernel
theorem dX6_laysStates_43 : decode cX6_laysStates 43 = .ok (.istore_n 1, 1) := by decide +kernel
theorem dX6_laysStates_44 : decode cX6_laysStates 44 = .ok (.iconst 0, 1) := by decide +kernel
theorem dX6_laysStates_45 : decode cX6_laysStates 45 = .ok (.istore_n 2, 1) := by decide +kernel
theorem dX6_laysStates_46 : decode cX6_laysStates 46 = .ok (.iload_n 2, 1) := by decide +kernel
theorem dX6_laysStates_47 : decode cX6_laysStates 47 = .ok (.aload_n 0, 1) := by decide +kernel
theorem dX6_laysStates_48 : decode cX6_laysStates 48 = .ok (.invokevirtual 53, 3) := by decide +kernel
theorem dX6_laysStates_51 : decode cX6_laysStates 51 = .ok (.if_icmp .ge 85, 3) := by decide +kernel
theorem dX6_laysStates_54 : decode cX6_laysStates 54 = .ok (.iconst 0, 1) := by decide +kernel
theorem dX6_laysStates_55 : decode cX6_laysStates 55 = .ok (.istore_n 3, 1) := by decide +kernel
theorem dX6_laysStates_56 : decode cX6_laysStates 56 = .ok (.iload_n 3, 1) := by decide +kernel
theorem dX6_laysStates_57 : decode cX6_laysStates 57 = .ok (.iconst 4, 1) := by decide +kernel
theorem dX6_laysStates_58 : decode cX6_laysStates 58 = .ok (.if_icmp .ge 72, 3) := by decide +kernel
theorem dX6_laysStates_61 : decode cX6_laysStates 61 = .ok (.aload_n 0, 1) := by decide +kernel
theorem dX6_laysStates_62 : decode cX6_laysStates 62 = .ok (.getfield 34, 3) := by decide +kernel
theorem dX6_laysStates_65 : decode cX6_laysStates 65 = .ok (.iload_n 2, 1) := by decide +kernel
theorem dX6_laysStates_66 : decode cX6_laysStates 66 = .ok (.iaload, 1) := by decide +kernel
theorem dX6_laysStates_67 : decode cX6_laysStates 67 = .ok (.ifCond .lt 63, 3) := by decide +kernel
theorem dX6_laysStates_70 : decode cX6_laysStates 70 = .ok (.aload_n 0, 1) := by decide +kernel
theorem dX6_laysStates_71 : decode cX6_laysStates 71 = .ok (.iload_n 2, 1) := by decide +kernel
theorem dX6_laysStates_72 : decode cX6_laysStates 72 = .ok (.iload_n 3, 1) := by decide +kernel
theorem dX6_laysStates_73 : decode cX6_laysStates 73 = .ok (.invokevirtual 101, 3) := by decide +kernel
theorem dX6_laysStates_76 : decode cX6_laysStates 76 = .ok (.istore 4, 2) := by decide +kernel
theorem dX6_laysStates_78 : decode cX6_laysStates 78 = .ok (.iload 4, 2) := by decide +kernel
theorem dX6_laysStates_80 : decode cX6_laysStates 80 = .ok (.ifCond .lt 44, 3) := by decide +kernel
theorem dX6_laysStates_83 : decode cX6_laysStates 83 = .ok (.aload_n 0, 1) := by decide +kernel
theorem dX6_laysStates_84 : decode cX6_laysStates 84 = .ok (.getfield 34, 3) := by decide +kernel
theorem dX6_laysStates_87 : decode cX6_laysStates 87 = .ok (.iload 4, 2) := by decide +kernel
theorem dX6_laysStates_89 : decode cX6_laysStates 89 = .ok (.iaload, 1) := by decide +kernel
theorem dX6_laysStates_90 : decode cX6_laysStates 90 = .ok (.ifCond .lt 34, 3) := by decide +kernel
theorem dX6_laysStates_93 : decode cX6_laysStates 93 = .ok (.aload_n 0, 1) := by decide +kernel
theorem dX6_laysStates_94 : decode cX6_laysStates 94 = .ok (.getfield 34, 3) := by decide +kernel
theorem dX6_laysStates_97 : decode cX6_laysStates 97 = .ok (.iload 4, 2) := by decide +kernel
theorem dX6_laysStates_99 : decode cX6_laysStates 99 = .ok (.iaload, 1) := by decide +kernel
theorem dX6_laysStates_100 : decode cX6_laysStates 100 = .ok (.aload_n 0, 1) := by decide +kernel
theorem dX6_laysStates_101 : decode cX6_laysStates 101 = .ok (.getfield 34, 3) := by decide +kernel
theorem dX6_laysStates_104 : decode cX6_laysStates 104 = .ok (.iload_n 2, 1) := by decide +kernel
theorem dX6_laysStates_105 : decode cX6_laysStates 105 = .ok (.iaload, 1) := by decide +kernel
theorem dX6_laysStates_106 : decode cX6_laysStates 106 = .ok (.if_icmp .ge 18, 3) := by decide +kernel
theorem dX6_laysStates_109 : decode cX6_laysStates 109 = .ok (.aload_n 0, 1) := by decide +kernel
theorem dX6_laysStates_110 : decode cX6_laysStates 110 = .ok (.getfield 34, 3) := by decide +kernel
theorem dX6_laysStates_113 : decode cX6_laysStates 113 = .ok (.iload_n 2, 1) := by decide +kernel
theorem dX6_laysStates_114 : decode cX6_laysStates 114 = .ok (.aload_n 0, 1) := by decide +kernel
theorem dX6_laysStates_115 : decode cX6_laysStates 115 = .ok (.getfield 34, 3) := by decide +kernel
theorem dX6_laysStates_118 : decode cX6_laysStates 118 = .ok (.iload 4, 2) := by decide +kernel
theorem dX6_laysStates_120 : decode cX6_laysStates 120 = .ok (.iaload, 1) := by decide +kernel
theorem dX6_laysStates_121 : decode cX6_laysStates 121 = .ok (.iastore, 1) := by decide +kernel
theorem dX6_laysStates_122 : decode cX6_laysStates 122 = .ok (.iconst 1, 1) := by decide +kernel
theorem dX6_laysStates_123 : decode cX6_laysStates 123 = .ok (.istore_n 1, 1) := by decide +kernel
theorem dX6_laysStates_124 : decode cX6_laysStates 124 = .ok (.iinc 3 1, 3) := by decide +kernel
theorem dX6_laysStates_127 : decode cX6_laysStates 127 = .ok (.goto (-71), 3) := by decide +kernel
theorem dX6_laysStates_130 : decode cX6_laysStates 130 = .ok (.iinc 2 1, 3) := by decide +kernel
theorem dX6_laysStates_133 : decode cX6_laysStates 133 = .ok (.goto (-87), 3) := by decide +kernel
theorem dX6_laysStates_136 : decode cX6_laysStates 136 = .ok (.goto (-98), 3) := by decide +kernel
theorem dX6_laysStates_139 : decode cX6_laysStates 139 = .ok (.return_, 1) := by decide +kernel
theorem dX6_sizeOf_0 : decode cX6_sizeOf 0 = .ok (.iconst 0, 1) := by decide +kernel
theorem dX6_sizeOf_1 : decode cX6_sizeOf 1 = .ok (.istore_n 2, 1) := by decide +kernel
theorem dX6_sizeOf_2 : decode cX6_sizeOf 2 = .ok (.iconst 0, 1) := by decide +kernel
theorem dX6_sizeOf_3 : decode cX6_sizeOf 3 = .ok (.istore_n 3, 1) := by decide +kernel
theorem dX6_sizeOf_4 : decode cX6_sizeOf 4 = .ok (.iload_n 3, 1) := by decide +kernel
theorem dX6_sizeOf_5 : decode cX6_sizeOf 5 = .ok (.aload_n 0, 1) := by decide +kernel
theorem dX6_sizeOf_6 : decode cX6_sizeOf 6 = .ok (.invokevirtual 53, 3) := by decide +kernel
theorem dX6_sizeOf_9 : decode cX6_sizeOf 9 = .ok (.if_icmp .ge 31, 3) := by decide +kernel
theorem dX6_sizeOf_12 : decode cX6_sizeOf 12 = .ok (.iload_n 2, 1) := by decide +kernel
theorem dX6_sizeOf_13 : decode cX6_sizeOf 13 = .ok (.iload_n 1, 1) := by decide +kernel
theorem dX6_sizeOf_14 : decode cX6_sizeOf 14 = .ok (.ifCond .lt 17, 3) := by decide +kernel
theorem dX6_sizeOf_17 : decode cX6_sizeOf 17 = .ok (.aload_n 0, 1) := by decide +kernel
theorem dX6_sizeOf_18 : decode cX6_sizeOf 18 = .ok (.getfield 34, 3) := by decide +kernel
theorem dX6_sizeOf_21 : decode cX6_sizeOf 21 = .ok (.iload_n 3, 1) := by decide +kernel
theorem dX6_sizeOf_22 : decode cX6_sizeOf 22 = .ok (.iaload, 1) := by decide +kernel
theorem dX6_sizeOf_23 : decode cX6_sizeOf 23 = .ok (.iload_n 1, 1) := by decide +kernel
theorem dX6_sizeOf_24 : decode cX6_sizeOf 24 = .ok (.if_icmp .ne 7, 3) := by decide +kernel
theorem dX6_sizeOf_27 : decode cX6_sizeOf 27 = .ok (.iconst 1, 1) := by decide +kernel
theorem dX6_sizeOf_28 : decode cX6_sizeOf 28 = .ok (.goto 4, 3) := by decide +kernel
theorem dX6_sizeOf_31 : decode cX6_sizeOf 31 = .ok (.iconst 0, 1) := by decide +kernel
theorem dX6_sizeOf_32 : decode cX6_sizeOf 32 = .ok (.iadd, 1) := by decide +kernel
theorem dX6_sizeOf_33 : decode cX6_sizeOf 33 = .ok (.istore_n 2, 1) := by decide +kernel
theorem dX6_sizeOf_34 : decode cX6_sizeOf 34 = .ok (.iinc 3 1, 3) := by decide +kernel
theorem dX6_sizeOf_37 : decode cX6_sizeOf 37 = .ok (.goto (-33), 3) := by decide +kernel
theorem dX6_sizeOf_40 : decode cX6_sizeOf 40 = .ok (.iload_n 2, 1) := by decide +kernel
theorem dX6_sizeOf_41 : decode cX6_sizeOf 41 = .ok (.ireturn, 1) := by decide +kernel
theorem dX6_cell_0 : decode cX6_cell 0 = .ok (.aload_n 0, 1) := by decide +kernel
theorem dX6_cell_1 : decode cX6_cell 1 = .ok (.iload_n 1, 1) := by decide +kernel
theorem dX6_cell_2 : decode cX6_cell 2 = .ok (.invokevirtual 98, 3) := by decide +kernel
theorem dX6_cell_5 : decode cX6_cell 5 = .ok (.ifCond .ne 5, 3) := by decide +kernel
theorem dX6_cell_8 : decode cX6_cell 8 = .ok (.iconst (-1), 1) := by decide +kernel
theorem dX6_cell_9 : decode cX6_cell 9 = .ok (.ireturn, 1) := by decide +kernel
theorem dX6_cell_10 : decode cX6_cell 10 = .ok (.aload_n 0, 1) := by decide +kernel
theorem dX6_cell_11 : decode cX6_cell 11 = .ok (.invokevirtual 118, 3) := by decide +kernel
theorem dX6_cell_14 : decode cX6_cell 14 = .ok (.iconst 0, 1) := by decide +kernel
theorem dX6_cell_15 : decode cX6_cell 15 = .ok (.istore_n 3, 1) := by decide +kernel
theorem dX6_cell_16 : decode cX6_cell 16 = .ok (.iconst 0, 1) := by decide +kernel
theorem dX6_cell_17 : decode cX6_cell 17 = .ok (.istore 4, 2) := by decide +kernel
theorem dX6_cell_19 : decode cX6_cell 19 = .ok (.iload 4, 2) := by decide +kernel
theorem dX6_cell_21 : decode cX6_cell 21 = .ok (.aload_n 0, 1) := by decide +kernel
theorem dX6_cell_22 : decode cX6_cell 22 = .ok (.invokevirtual 53, 3) := by decide +kernel
theorem dX6_cell_25 : decode cX6_cell 25 = .ok (.if_icmp .ge 57, 3) := by decide +kernel
theorem dX6_cell_28 : decode cX6_cell 28 = .ok (.aload_n 0, 1) := by decide +kernel
theorem dX6_cell_29 : decode cX6_cell 29 = .ok (.getfield 34, 3) := by decide +kernel
theorem dX6_cell_32 : decode cX6_cell 32 = .ok (.iload_n 1, 1) := by decide +kernel
theorem dX6_cell_33 : decode cX6_cell 33 = .ok (.iaload, 1) := by decide +kernel
theorem dX6_cell_34 : decode cX6_cell 34 = .ok (.ifCond .lt 40, 3) := by decide +kernel
theorem dX6_cell_37 : decode cX6_cell 37 = .ok (.aload_n 0, 1) := by decide +kernel
theorem dX6_cell_38 : decode cX6_cell 38 = .ok (.getfield 34, 3) := by decide +kernel
theorem dX6_cell_41 : decode cX6_cell 41 = .ok (.iload 4, 2) := by decide +kernel
theorem dX6_cell_43 : decode cX6_cell 43 = .ok (.iaload, 1) := by decide +kernel
theorem dX6_cell_44 : decode cX6_cell 44 = .ok (.aload_n 0, 1) := by decide +kernel
theorem dX6_cell_45 : decode cX6_cell 45 = .ok (.getfield 34, 3) := by decide +kernel
theorem dX6_cell_48 : decode cX6_cell 48 = .ok (.iload_n 1, 1) := by decide +kernel
theorem dX6_cell_49 : decode cX6_cell 49 = .ok (.iaload, 1) := by decide +kernel
theorem dX6_cell_50 : decode cX6_cell 50 = .ok (.if_icmp .ne 24, 3) := by decide +kernel
theorem dX6_cell_53 : decode cX6_cell 53 = .ok (.aload_n 0, 1) := by decide +kernel
theorem dX6_cell_54 : decode cX6_cell 54 = .ok (.getfield 22, 3) := by decide +kernel
theorem dX6_cell_57 : decode cX6_cell 57 = .ok (.iload 4, 2) := by decide +kernel
theorem dX6_cell_59 : decode cX6_cell 59 = .ok (.iaload, 1) := by decide +kernel
theorem dX6_cell_60 : decode cX6_cell 60 = .ok (.iload_n 3, 1) := by decide +kernel
theorem dX6_cell_61 : decode cX6_cell 61 = .ok (.if_icmp .le 13, 3) := by decide +kernel
theorem dX6_cell_64 : decode cX6_cell 64 = .ok (.aload_n 0, 1) := by decide +kernel
theorem dX6_cell_65 : decode cX6_cell 65 = .ok (.getfield 22, 3) := by decide +kernel
theorem dX6_cell_68 : decode cX6_cell 68 = .ok (.iload 4, 2) := by decide +kernel
theorem dX6_cell_70 : decode cX6_cell 70 = .ok (.iaload, 1) := by decide +kernel
theorem dX6_cell_71 : decode cX6_cell 71 = .ok (.goto 4, 3) := by decide +kernel
theorem dX6_cell_74 : decode cX6_cell 74 = .ok (.iload_n 3, 1) := by decide +kernel
theorem dX6_cell_75 : decode cX6_cell 75 = .ok (.istore_n 3, 1) := by decide +kernel
theorem dX6_cell_76 : decode cX6_cell 76 = .ok (.iinc 4 1, 3) := by decide +kernel
theorem dX6_cell_79 : decode cX6_cell 79 = .ok (.goto (-60), 3) := by decide +kernel
theorem dX6_cell_82 : decode cX6_cell 82 = .ok (.iload_n 2, 1) := by decide +kernel
theorem dX6_cell_83 : decode cX6_cell 83 = .ok (.tableswitch 97 0 5 #[37, 47, 56, 63, 84, 95], 37) := by decide +kernel
theorem dX6_cell_120 : decode cX6_cell 120 = .ok (.aload_n 0, 1) := by decide +kernel
theorem dX6_cell_121 : decode cX6_cell 121 = .ok (.getfield 22, 3) := by decide +kernel
theorem dX6_cell_124 : decode cX6_cell 124 = .ok (.bipush 36, 2) := by decide +kernel
theorem dX6_cell_126 : decode cX6_cell 126 = .ok (.iload_n 1, 1) := by decide +kernel
theorem dX6_cell_127 : decode cX6_cell 127 = .ok (.iadd, 1) := by decide +kernel
theorem dX6_cell_128 : decode cX6_cell 128 = .ok (.iaload, 1) := by decide +kernel
theorem dX6_cell_129 : decode cX6_cell 129 = .ok (.ireturn, 1) := by decide +kernel
theorem dX6_cell_130 : decode cX6_cell 130 = .ok (.aload_n 0, 1) := by decide +kernel
theorem dX6_cell_131 : decode cX6_cell 131 = .ok (.getfield 13, 3) := by decide +kernel
theorem dX6_cell_134 : decode cX6_cell 134 = .ok (.iconst 3, 1) := by decide +kernel
theorem dX6_cell_135 : decode cX6_cell 135 = .ok (.iload_n 1, 1) := by decide +kernel
theorem dX6_cell_136 : decode cX6_cell 136 = .ok (.iadd, 1) := by decide +kernel
theorem dX6_cell_137 : decode cX6_cell 137 = .ok (.iaload, 1) := by decide +kernel
theorem dX6_cell_138 : decode cX6_cell 138 = .ok (.ireturn, 1) := by decide +kernel
theorem dX6_cell_139 : decode cX6_cell 139 = .ok (.aload_n 0, 1) := by decide +kernel
theorem dX6_cell_140 : decode cX6_cell 140 = .ok (.getfield 22, 3) := by decide +kernel
theorem dX6_cell_143 : decode cX6_cell 143 = .ok (.iload_n 1, 1) := by decide +kernel
theorem dX6_cell_144 : decode cX6_cell 144 = .ok (.iaload, 1) := by decide +kernel
theorem dX6_cell_145 : decode cX6_cell 145 = .ok (.ireturn, 1) := by decide +kernel
theorem dX6_cell_146 : decode cX6_cell 146 = .ok (.aload_n 0, 1) := by decide +kernel
theorem dX6_cell_147 : decode cX6_cell 147 = .ok (.getfield 34, 3) := by decide +kernel
theorem dX6_cell_150 : decode cX6_cell 150 = .ok (.iload_n 1, 1) := by decide +kernel
theorem dX6_cell_151 : decode cX6_cell 151 = .ok (.iaload, 1) := by decide +kernel
theorem dX6_cell_152 : decode cX6_cell 152 = .ok (.ifCond .ge 8, 3) := by decide +kernel
theorem dX6_cell_155 : decode cX6_cell 155 = .ok (.bipush (-4), 2) := by decide +kernel
theorem dX6_cell_157 : decode cX6_cell 157 = .ok (.goto 9, 3) := by decide +kernel
theorem dX6_cell_160 : decode cX6_cell 160 = .ok (.aload_n 0, 1) := by decide +kernel
theorem dX6_cell_161 : decode cX6_cell 161 = .ok (.getfield 34, 3) := by decide +kernel
theorem dX6_cell_164 : decode cX6_cell 164 = .ok (.iload_n 1, 1) := by decide +kernel
theorem dX6_cell_165 : decode cX6_cell 165 = .ok (.iaload, 1) := by decide +kernel
theorem dX6_cell_166 : decode cX6_cell 166 = .ok (.ireturn, 1) := by decide +kernel
theorem dX6_cell_167 : decode cX6_cell 167 = .ok (.aload_n 0, 1) := by decide +kernel
theorem dX6_cell_168 : decode cX6_cell 168 = .ok (.aload_n 0, 1) := by decide +kernel
theorem dX6_cell_169 : decode cX6_cell 169 = .ok (.getfield 34, 3) := by decide +kernel
theorem dX6_cell_172 : decode cX6_cell 172 = .ok (.iload_n 1, 1) := by decide +kernel
theorem dX6_cell_173 : decode cX6_cell 173 = .ok (.iaload, 1) := by decide +kernel
theorem dX6_cell_174 : decode cX6_cell 174 = .ok (.invokevirtual 121, 3) := by decide +kernel
theorem dX6_cell_177 : decode cX6_cell 177 = .ok (.ireturn, 1) := by decide +kernel
theorem dX6_cell_178 : decode cX6_cell 178 = .ok (.iload_n 3, 1) := by decide +kernel
theorem dX6_cell_179 : decode cX6_cell 179 = .ok (.ireturn, 1) := by decide +kernel
theorem dX6_cell_180 : decode cX6_cell 180 = .ok (.iconst (-1), 1) := by decide +kernel
theorem dX6_cell_181 : decode cX6_cell 181 = .ok (.ireturn, 1) := by decide +kernel
theorem dX6_keeps_0 : decode cX6_keeps 0 = .ok (.aload_n 0, 1) := by decide +kernel
theorem dX6_keeps_1 : decode cX6_keeps 1 = .ok (.getfield 89, 3) := by decide +kernel
theorem dX6_keeps_4 : decode cX6_keeps 4 = .ok (.bipush 8, 2) := by decide +kernel
theorem dX6_keeps_6 : decode cX6_keeps 6 = .ok (.if_icmp .ne 43, 3) := by decide +kernel
theorem dX6_keeps_9 : decode cX6_keeps 9 = .ok (.iconst 0, 1) := by decide +kernel
theorem dX6_keeps_10 : decode cX6_keeps 10 = .ok (.istore_n 1, 1) := by decide +kernel
theorem dX6_keeps_11 : decode cX6_keeps 11 = .ok (.iload_n 1, 1) := by decide +kernel
theorem dX6_keeps_12 : decode cX6_keeps 12 = .ok (.sipush 511, 3) := by decide +kernel
theorem dX6_keeps_15 : decode cX6_keeps 15 = .ok (.if_icmp .ge 24, 3) := by decide +kernel
theorem dX6_keeps_18 : decode cX6_keeps 18 = .ok (.aload_n 0, 1) := by decide +kernel
theorem dX6_keeps_19 : decode cX6_keeps 19 = .ok (.getfield 25, 3) := by decide +kernel
theorem dX6_keeps_22 : decode cX6_keeps 22 = .ok (.iload_n 1, 1) := by decide +kernel
theorem dX6_keeps_23 : decode cX6_keeps 23 = .ok (.aload_n 0, 1) := by decide +kernel
theorem dX6_keeps_24 : decode cX6_keeps 24 = .ok (.getfield 25, 3) := by decide +kernel
theorem dX6_keeps_27 : decode cX6_keeps 27 = .ok (.iload_n 1, 1) := by decide +kernel
theorem dX6_keeps_28 : decode cX6_keeps 28 = .ok (.bipush 73, 2) := by decide +kernel
theorem dX6_keeps_30 : decode cX6_keeps 30 = .ok (.iadd, 1) := by decide +kernel
theorem dX6_keeps_31 : decode cX6_keeps 31 = .ok (.iaload, 1) := by decide +kernel
theorem dX6_keeps_32 : decode cX6_keeps 32 = .ok (.iastore, 1) := by decide +kernel
theorem dX6_keeps_33 : decode cX6_keeps 33 = .ok (.iinc 1 1, 3) := by decide +kernel
theorem dX6_keeps_36 : decode cX6_keeps 36 = .ok (.goto (-25), 3) := by decide +kernel
theorem dX6_keeps_39 : decode cX6_keeps 39 = .ok (.aload_n 0, 1) := by decide +kernel
theorem dX6_keeps_40 : decode cX6_keeps 40 = .ok (.dup, 1) := by decide +kernel
theorem dX6_keeps_41 : decode cX6_keeps 41 = .ok (.getfield 89, 3) := by decide +kernel
theorem dX6_keeps_44 : decode cX6_keeps 44 = .ok (.iconst 1, 1) := by decide +kernel
theorem dX6_keeps_45 : decode cX6_keeps 45 = .ok (.isub, 1) := by decide +kernel
theorem dX6_keeps_46 : decode cX6_keeps 46 = .ok (.putfield 89, 3) := by decide +kernel
theorem dX6_keeps_49 : decode cX6_keeps 49 = .ok (.iconst 0, 1) := by decide +kernel
theorem dX6_keeps_50 : decode cX6_keeps 50 = .ok (.istore_n 1, 1) := by decide +kernel
theorem dX6_keeps_51 : decode cX6_keeps 51 = .ok (.iload_n 1, 1) := by decide +kernel
theorem dX6_keeps_52 : decode cX6_keeps 52 = .ok (.bipush 73, 2) := by decide +kernel
theorem dX6_keeps_54 : decode cX6_keeps 54 = .ok (.if_icmp .ge 29, 3) := by decide +kernel
theorem dX6_keeps_57 : decode cX6_keeps 57 = .ok (.aload_n 0, 1) := by decide +kernel
theorem dX6_keeps_58 : decode cX6_keeps 58 = .ok (.getfield 25, 3) := by decide +kernel
theorem dX6_keeps_61 : decode cX6_keeps 61 = .ok (.bipush 73, 2) := by decide +kernel
theorem dX6_keeps_63 : decode cX6_keeps 63 = .ok (.aload_n 0, 1) := by decide +kernel
theorem dX6_keeps_64 : decode cX6_keeps 64 = .ok (.getfield 89, 3) := by decide +kernel
theorem dX6_keeps_67 : decode cX6_keeps 67 = .ok (.imul, 1) := by decide +kernel
theorem dX6_keeps_68 : decode cX6_keeps 68 = .ok (.iload_n 1, 1) := by decide +kernel
theorem dX6_keeps_69 : decode cX6_keeps 69 = .ok (.iadd, 1) := by decide +kernel
theorem dX6_keeps_70 : decode cX6_keeps 70 = .ok (.aload_n 0, 1) := by decide +kernel
theorem dX6_keeps_71 : decode cX6_keeps 71 = .ok (.getfield 22, 3) := by decide +kernel
theorem dX6_keeps_74 : decode cX6_keeps 74 = .ok (.iload_n 1, 1) := by decide +kernel
theorem dX6_keeps_75 : decode cX6_keeps 75 = .ok (.iaload, 1) := by decide +kernel
theorem dX6_keeps_76 : decode cX6_keeps 76 = .ok (.iastore, 1) := by decide +kernel
theorem dX6_keeps_77 : decode cX6_keeps 77 = .ok (.iinc 1 1, 3) := by decide +kernel
theorem dX6_keeps_80 : decode cX6_keeps 80 = .ok (.goto (-29), 3) := by decide +kernel
theorem dX6_keeps_83 : decode cX6_keeps 83 = .ok (.aload_n 0, 1) := by decide +kernel
theorem dX6_keeps_84 : decode cX6_keeps 84 = .ok (.dup, 1) := by decide +kernel
theorem dX6_keeps_85 : decode cX6_keeps 85 = .ok (.getfield 89, 3) := by decide +kernel
theorem dX6_keeps_88 : decode cX6_keeps 88 = .ok (.iconst 1, 1) := by decide +kernel
theorem dX6_keeps_89 : decode cX6_keeps 89 = .ok (.iadd, 1) := by decide +kernel
theorem dX6_keeps_90 : decode cX6_keeps 90 = .ok (.putfield 89, 3) := by decide +kernel
theorem dX6_keeps_93 : decode cX6_keeps 93 = .ok (.return_, 1) := by decide +kernel
theorem dX6_all_0 : decode cX6_all 0 = .ok (.iconst 0, 1) := by decide +kernel
theorem dX6_all_1 : decode cX6_all 1 = .ok (.istore_n 1, 1) := by decide +kernel
theorem dX6_all_2 : decode cX6_all 2 = .ok (.iconst 0, 1) := by decide +kernel
theorem dX6_all_3 : decode cX6_all 3 = .ok (.istore_n 2, 1) := by decide +kernel
theorem dX6_all_4 : decode cX6_all 4 = .ok (.iload_n 2, 1) := by decide +kernel
theorem dX6_all_5 : decode cX6_all 5 = .ok (.aload_n 0, 1) := by decide +kernel
theorem dX6_all_6 : decode cX6_all 6 = .ok (.invokevirtual 53, 3) := by decide +kernel
theorem dX6_all_9 : decode cX6_all 9 = .ok (.if_icmp .ge 18, 3) := by decide +kernel
theorem dX6_all_12 : decode cX6_all 12 = .ok (.iload_n 1, 1) := by decide +kernel
theorem dX6_all_13 : decode cX6_all 13 = .ok (.aload_n 0, 1) := by decide +kernel
theorem dX6_all_14 : decode cX6_all 14 = .ok (.getfield 22, 3) := by decide +kernel
theorem dX6_all_17 : decode cX6_all 17 = .ok (.iload_n 2, 1) := by decide +kernel
theorem dX6_all_18 : decode cX6_all 18 = .ok (.iaload, 1) := by decide +kernel
theorem dX6_all_19 : decode cX6_all 19 = .ok (.iadd, 1) := by decide +kernel
theorem dX6_all_20 : decode cX6_all 20 = .ok (.istore_n 1, 1) := by decide +kernel
theorem dX6_all_21 : decode cX6_all 21 = .ok (.iinc 2 1, 3) := by decide +kernel
theorem dX6_all_24 : decode cX6_all 24 = .ok (.goto (-20), 3) := by decide +kernel
theorem dX6_all_27 : decode cX6_all 27 = .ok (.iload_n 1, 1) := by decide +kernel
theorem dX6_all_28 : decode cX6_all 28 = .ok (.ireturn, 1) := by decide +kernel
theorem dX6_rain_0 : decode cX6_rain 0 = .ok (.iload_n 1, 1) := by decide +kernel
theorem dX6_rain_1 : decode cX6_rain 1 = .ok (.iconst 1, 1) := by decide +kernel
theorem dX6_rain_2 : decode cX6_rain 2 = .ok (.bipush 9, 2) := by decide +kernel
theorem dX6_rain_4 : decode cX6_rain 4 = .ok (.invokestatic 57, 3) := by decide +kernel
theorem dX6_rain_7 : decode cX6_rain 7 = .ok (.ifCond .ne 5, 3) := by decide +kernel
theorem dX6_rain_10 : decode cX6_rain 10 = .ok (.iconst (-1), 1) := by decide +kernel
theorem dX6_rain_11 : decode cX6_rain 11 = .ok (.ireturn, 1) := by decide +kernel
theorem dX6_rain_12 : decode cX6_rain 12 = .ok (.aload_n 0, 1) := by decide +kernel
theorem dX6_rain_13 : decode cX6_rain 13 = .ok (.invokevirtual 124, 3) := by decide +kernel
theorem dX6_rain_16 : decode cX6_rain 16 = .ok (.aload_n 0, 1) := by decide +kernel
theorem dX6_rain_17 : decode cX6_rain 17 = .ok (.iload_n 1, 1) := by decide +kernel
theorem dX6_rain_18 : decode cX6_rain 18 = .ok (.invokevirtual 127, 3) := by decide +kernel
theorem dX6_rain_21 : decode cX6_rain 21 = .ok (.aload_n 0, 1) := by decide +kernel
theorem dX6_rain_22 : decode cX6_rain 22 = .ok (.invokevirtual 131, 3) := by decide +kernel
theorem dX6_rain_25 : decode cX6_rain 25 = .ok (.ireturn, 1) := by decide +kernel
theorem dX6_shine_0 : decode cX6_shine 0 = .ok (.iload_n 1, 1) := by decide +kernel
theorem dX6_shine_1 : decode cX6_shine 1 = .ok (.iconst 1, 1) := by decide +kernel
theorem dX6_shine_2 : decode cX6_shine 2 = .ok (.bipush 20, 2) := by decide +kernel
theorem dX6_shine_4 : decode cX6_shine 4 = .ok (.invokestatic 57, 3) := by decide +kernel
theorem dX6_shine_7 : decode cX6_shine 7 = .ok (.ifCond .ne 5, 3) := by decide +kernel
theorem dX6_shine_10 : decode cX6_shine 10 = .ok (.iconst (-1), 1) := by decide +kernel
theorem dX6_shine_11 : decode cX6_shine 11 = .ok (.ireturn, 1) := by decide +kernel
theorem dX6_shine_12 : decode cX6_shine 12 = .ok (.aload_n 0, 1) := by decide +kernel
theorem dX6_shine_13 : decode cX6_shine 13 = .ok (.invokevirtual 124, 3) := by decide +kernel
theorem dX6_shine_16 : decode cX6_shine 16 = .ok (.iconst 0, 1) := by decide +kernel
theorem dX6_shine_17 : decode cX6_shine 17 = .ok (.istore_n 2, 1) := by decide +kernel
theorem dX6_shine_18 : decode cX6_shine 18 = .ok (.iload_n 2, 1) := by decide +kernel
theorem dX6_shine_19 : decode cX6_shine 19 = .ok (.iload_n 1, 1) := by decide +kernel
theorem dX6_shine_20 : decode cX6_shine 20 = .ok (.if_icmp .ge 13, 3) := by decide +kernel
theorem dX6_shine_23 : decode cX6_shine 23 = .ok (.aload_n 0, 1) := by decide +kernel
theorem dX6_shine_24 : decode cX6_shine 24 = .ok (.invokevirtual 134, 3) := by decide +kernel
theorem dX6_shine_27 : decode cX6_shine 27 = .ok (.iinc 2 1, 3) := by decide +kernel
theorem dX6_shine_30 : decode cX6_shine 30 = .ok (.goto (-12), 3) := by decide +kernel
theorem dX6_shine_33 : decode cX6_shine 33 = .ok (.aload_n 0, 1) := by decide +kernel
theorem dX6_shine_34 : decode cX6_shine 34 = .ok (.getfield 22, 3) := by decide +kernel
theorem dX6_shine_37 : decode cX6_shine 37 = .ok (.bipush 72, 2) := by decide +kernel
theorem dX6_shine_39 : decode cX6_shine 39 = .ok (.iaload, 1) := by decide +kernel
theorem dX6_shine_40 : decode cX6_shine 40 = .ok (.ireturn, 1) := by decide +kernel
theorem dX6_boot_0 : decode cX6_boot 0 = .ok (.aload_n 0, 1) := by decide +kernel
theorem dX6_boot_1 : decode cX6_boot 1 = .ok (.iload_n 1, 1) := by decide +kernel
theorem dX6_boot_2 : decode cX6_boot 2 = .ok (.invokevirtual 98, 3) := by decide +kernel
theorem dX6_boot_5 : decode cX6_boot 5 = .ok (.ifCond .ne 5, 3) := by decide +kernel
theorem dX6_boot_8 : decode cX6_boot 8 = .ok (.iconst (-1), 1) := by decide +kernel
theorem dX6_boot_9 : decode cX6_boot 9 = .ok (.ireturn, 1) := by decide +kernel
theorem dX6_boot_10 : decode cX6_boot 10 = .ok (.aload_n 0, 1) := by decide +kernel
theorem dX6_boot_11 : decode cX6_boot 11 = .ok (.getfield 22, 3) := by decide +kernel
theorem dX6_boot_14 : decode cX6_boot 14 = .ok (.iload_n 1, 1) := by decide +kernel
theorem dX6_boot_15 : decode cX6_boot 15 = .ok (.iaload, 1) := by decide +kernel
theorem dX6_boot_16 : decode cX6_boot 16 = .ok (.ifCond .ne 6, 3) := by decide +kernel
theorem dX6_boot_19 : decode cX6_boot 19 = .ok (.bipush (-2), 2) := by decide +kernel
theorem dX6_boot_21 : decode cX6_boot 21 = .ok (.ireturn, 1) := by decide +kernel
theorem dX6_boot_22 : decode cX6_boot 22 = .ok (.aload_n 0, 1) := by decide +kernel
theorem dX6_boot_23 : decode cX6_boot 23 = .ok (.invokevirtual 124, 3) := by decide +kernel
theorem dX6_boot_26 : decode cX6_boot 26 = .ok (.iconst 0, 1) := by decide +kernel
theorem dX6_boot_27 : decode cX6_boot 27 = .ok (.istore_n 2, 1) := by decide +kernel
theorem dX6_boot_28 : decode cX6_boot 28 = .ok (.iload_n 2, 1) := by decide +kernel
theorem dX6_boot_29 : decode cX6_boot 29 = .ok (.iconst 4, 1) := by decide +kernel
theorem dX6_boot_30 : decode cX6_boot 30 = .ok (.if_icmp .ge 35, 3) := by decide +kernel
theorem dX6_boot_33 : decode cX6_boot 33 = .ok (.aload_n 0, 1) := by decide +kernel
theorem dX6_boot_34 : decode cX6_boot 34 = .ok (.iload_n 1, 1) := by decide +kernel
theorem dX6_boot_35 : decode cX6_boot 35 = .ok (.iload_n 2, 1) := by decide +kernel
theorem dX6_boot_36 : decode cX6_boot 36 = .ok (.invokevirtual 101, 3) := by decide +kernel
theorem dX6_boot_39 : decode cX6_boot 39 = .ok (.istore_n 3, 1) := by decide +kernel
theorem dX6_boot_40 : decode cX6_boot 40 = .ok (.iload_n 3, 1) := by decide +kernel
theorem dX6_boot_41 : decode cX6_boot 41 = .ok (.ifCond .lt 18, 3) := by decide +kernel
theorem dX6_boot_44 : decode cX6_boot 44 = .ok (.aload_n 0, 1) := by decide +kernel
theorem dX6_boot_45 : decode cX6_boot 45 = .ok (.getfield 22, 3) := by decide +kernel
theorem dX6_boot_48 : decode cX6_boot 48 = .ok (.iload_n 1, 1) := by decide +kernel
theorem dX6_boot_49 : decode cX6_boot 49 = .ok (.iaload, 1) := by decide +kernel
theorem dX6_boot_50 : decode cX6_boot 50 = .ok (.ifCond .le 9, 3) := by decide +kernel
theorem dX6_boot_53 : decode cX6_boot 53 = .ok (.aload_n 0, 1) := by decide +kernel
theorem dX6_boot_54 : decode cX6_boot 54 = .ok (.iload_n 1, 1) := by decide +kernel
theorem dX6_boot_55 : decode cX6_boot 55 = .ok (.iload_n 3, 1) := by decide +kernel
theorem dX6_boot_56 : decode cX6_boot 56 = .ok (.invokevirtual 108, 3) := by decide +kernel
theorem dX6_boot_59 : decode cX6_boot 59 = .ok (.iinc 2 1, 3) := by decide +kernel
theorem dX6_boot_62 : decode cX6_boot 62 = .ok (.goto (-34), 3) := by decide +kernel
theorem dX6_boot_65 : decode cX6_boot 65 = .ok (.aload_n 0, 1) := by decide +kernel
theorem dX6_boot_66 : decode cX6_boot 66 = .ok (.invokevirtual 86, 3) := by decide +kernel
theorem dX6_boot_69 : decode cX6_boot 69 = .ok (.aload_n 0, 1) := by decide +kernel
theorem dX6_boot_70 : decode cX6_boot 70 = .ok (.getfield 22, 3) := by decide +kernel
theorem dX6_boot_73 : decode cX6_boot 73 = .ok (.iload_n 1, 1) := by decide +kernel
theorem dX6_boot_74 : decode cX6_boot 74 = .ok (.iaload, 1) := by decide +kernel
theorem dX6_boot_75 : decode cX6_boot 75 = .ok (.ireturn, 1) := by decide +kernel
theorem dX6_stone_0 : decode cX6_stone 0 = .ok (.aload_n 0, 1) := by decide +kernel
theorem dX6_stone_1 : decode cX6_stone 1 = .ok (.iload_n 1, 1) := by decide +kernel
theorem dX6_stone_2 : decode cX6_stone 2 = .ok (.invokevirtual 98, 3) := by decide +kernel
theorem dX6_stone_5 : decode cX6_stone 5 = .ok (.ifCond .ne 5, 3) := by decide +kernel
theorem dX6_stone_8 : decode cX6_stone 8 = .ok (.iconst (-1), 1) := by decide +kernel
theorem dX6_stone_9 : decode cX6_stone 9 = .ok (.ireturn, 1) := by decide +kernel
theorem dX6_stone_10 : decode cX6_stone 10 = .ok (.aload_n 0, 1) := by decide +kernel
theorem dX6_stone_11 : decode cX6_stone 11 = .ok (.iload_n 1, 1) := by decide +kernel
theorem dX6_stone_12 : decode cX6_stone 12 = .ok (.invokevirtual 115, 3) := by decide +kernel
theorem dX6_stone_15 : decode cX6_stone 15 = .ok (.ifCond .eq 25, 3) := by decide +kernel
theorem dX6_stone_18 : decode cX6_stone 18 = .ok (.aload_n 0, 1) := by decide +kernel
theorem dX6_stone_19 : decode cX6_stone 19 = .ok (.getfield 22, 3) := by decide +kernel
theorem dX6_stone_22 : decode cX6_stone 22 = .ok (.bipush 36, 2) := by decide +kernel
theorem dX6_stone_24 : decode cX6_stone 24 = .ok (.iload_n 1, 1) := by decide +kernel
theorem dX6_stone_25 : decode cX6_stone 25 = .ok (.iadd, 1) := by decide +kernel
theorem dX6_stone_26 : decode cX6_stone 26 = .ok (.iaload, 1) := by decide +kernel
theorem dX6_stone_27 : decode cX6_stone 27 = .ok (.iload_n 2, 1) := by decide +kernel
theorem dX6_stone_28 : decode cX6_stone 28 = .ok (.ifCond .eq 7, 3) := by decide +kernel
theorem dX6_stone_31 : decode cX6_stone 31 = .ok (.iconst 0, 1) := by decide +kernel
theorem dX6_stone_32 : decode cX6_stone 32 = .ok (.goto 5, 3) := by decide +kernel
theorem dX6_stone_35 : decode cX6_stone 35 = .ok (.bipush 20, 2) := by decide +kernel
theorem dX6_stone_37 : decode cX6_stone 37 = .ok (.if_icmp .ne 6, 3) := by decide +kernel
theorem dX6_stone_40 : decode cX6_stone 40 = .ok (.bipush (-2), 2) := by decide +kernel
theorem dX6_stone_42 : decode cX6_stone 42 = .ok (.ireturn, 1) := by decide +kernel
theorem dX6_stone_43 : decode cX6_stone 43 = .ok (.aload_n 0, 1) := by decide +kernel
theorem dX6_stone_44 : decode cX6_stone 44 = .ok (.invokevirtual 124, 3) := by decide +kernel
theorem dX6_stone_47 : decode cX6_stone 47 = .ok (.aload_n 0, 1) := by decide +kernel
theorem dX6_stone_48 : decode cX6_stone 48 = .ok (.getfield 22, 3) := by decide +kernel
theorem dX6_stone_51 : decode cX6_stone 51 = .ok (.bipush 36, 2) := by decide +kernel
theorem dX6_stone_53 : decode cX6_stone 53 = .ok (.iload_n 1, 1) := by decide +kernel
theorem dX6_stone_54 : decode cX6_stone 54 = .ok (.iadd, 1) := by decide +kernel
theorem dX6_stone_55 : decode cX6_stone 55 = .ok (.dup2, 1) := by decide +kernel
theorem dX6_stone_56 : decode cX6_stone 56 = .ok (.iaload, 1) := by decide +kernel
theorem dX6_stone_57 : decode cX6_stone 57 = .ok (.iload_n 2, 1) := by decide +kernel
theorem dX6_stone_58 : decode cX6_stone 58 = .ok (.ifCond .eq 7, 3) := by decide +kernel
theorem dX6_stone_61 : decode cX6_stone 61 = .ok (.iconst (-1), 1) := by decide +kernel
theorem dX6_stone_62 : decode cX6_stone 62 = .ok (.goto 4, 3) := by decide +kernel
theorem dX6_stone_65 : decode cX6_stone 65 = .ok (.iconst 1, 1) := by decide +kernel
theorem dX6_stone_66 : decode cX6_stone 66 = .ok (.iadd, 1) := by decide +kernel
theorem dX6_stone_67 : decode cX6_stone 67 = .ok (.iastore, 1) := by decide +kernel
theorem dX6_stone_68 : decode cX6_stone 68 = .ok (.aload_n 0, 1) := by decide +kernel
theorem dX6_stone_69 : decode cX6_stone 69 = .ok (.invokevirtual 86, 3) := by decide +kernel
theorem dX6_stone_72 : decode cX6_stone 72 = .ok (.aload_n 0, 1) := by decide +kernel
theorem dX6_stone_73 : decode cX6_stone 73 = .ok (.getfield 22, 3) := by decide +kernel
theorem dX6_stone_76 : decode cX6_stone 76 = .ok (.bipush 36, 2) := by decide +kernel
theorem dX6_stone_78 : decode cX6_stone 78 = .ok (.iload_n 1, 1) := by decide +kernel
theorem dX6_stone_79 : decode cX6_stone 79 = .ok (.iadd, 1) := by decide +kernel
theorem dX6_stone_80 : decode cX6_stone 80 = .ok (.iaload, 1) := by decide +kernel
theorem dX6_stone_81 : decode cX6_stone 81 = .ok (.ireturn, 1) := by decide +kernel
theorem dX6_undo_0 : decode cX6_undo 0 = .ok (.aload_n 0, 1) := by decide +kernel
theorem dX6_undo_1 : decode cX6_undo 1 = .ok (.getfield 89, 3) := by decide +kernel
theorem dX6_undo_4 : decode cX6_undo 4 = .ok (.ifCond .ne 6, 3) := by decide +kernel
theorem dX6_undo_7 : decode cX6_undo 7 = .ok (.bipush (-2), 2) := by decide +kernel
theorem dX6_undo_9 : decode cX6_undo 9 = .ok (.ireturn, 1) := by decide +kernel
theorem dX6_undo_10 : decode cX6_undo 10 = .ok (.aload_n 0, 1) := by decide +kernel
theorem dX6_undo_11 : decode cX6_undo 11 = .ok (.dup, 1) := by decide +kernel
theorem dX6_undo_12 : decode cX6_undo 12 = .ok (.getfield 89, 3) := by decide +kernel
theorem dX6_undo_15 : decode cX6_undo 15 = .ok (.iconst 1, 1) := by decide +kernel
theorem dX6_undo_16 : decode cX6_undo 16 = .ok (.isub, 1) := by decide +kernel
theorem dX6_undo_17 : decode cX6_undo 17 = .ok (.putfield 89, 3) := by decide +kernel
theorem dX6_undo_20 : decode cX6_undo 20 = .ok (.iconst 0, 1) := by decide +kernel
theorem dX6_undo_21 : decode cX6_undo 21 = .ok (.istore_n 1, 1) := by decide +kernel
theorem dX6_undo_22 : decode cX6_undo 22 = .ok (.iload_n 1, 1) := by decide +kernel
theorem dX6_undo_23 : decode cX6_undo 23 = .ok (.bipush 73, 2) := by decide +kernel
theorem dX6_undo_25 : decode cX6_undo 25 = .ok (.if_icmp .ge 29, 3) := by decide +kernel
theorem dX6_undo_28 : decode cX6_undo 28 = .ok (.aload_n 0, 1) := by decide +kernel
theorem dX6_undo_29 : decode cX6_undo 29 = .ok (.getfield 22, 3) := by decide +kernel
theorem dX6_undo_32 : decode cX6_undo 32 = .ok (.iload_n 1, 1) := by decide +kernel
theorem dX6_undo_33 : decode cX6_undo 33 = .ok (.aload_n 0, 1) := by decide +kernel
theorem dX6_undo_34 : decode cX6_undo 34 = .ok (.getfield 25, 3) := by decide +kernel
theorem dX6_undo_37 : decode cX6_undo 37 = .ok (.bipush 73, 2) := by decide +kernel
theorem dX6_undo_39 : decode cX6_undo 39 = .ok (.aload_n 0, 1) := by decide +kernel
theorem dX6_undo_40 : decode cX6_undo 40 = .ok (.getfield 89, 3) := by decide +kernel
theorem dX6_undo_43 : decode cX6_undo 43 = .ok (.imul, 1) := by decide +kernel
theorem dX6_undo_44 : decode cX6_undo 44 = .ok (.iload_n 1, 1) := by decide +kernel
theorem dX6_undo_45 : decode cX6_undo 45 = .ok (.iadd, 1) := by decide +kernel
theorem dX6_undo_46 : decode cX6_undo 46 = .ok (.iaload, 1) := by decide +kernel
theorem dX6_undo_47 : decode cX6_undo 47 = .ok (.iastore, 1) := by decide +kernel
theorem dX6_undo_48 : decode cX6_undo 48 = .ok (.iinc 1 1, 3) := by decide +kernel
theorem dX6_undo_51 : decode cX6_undo 51 = .ok (.goto (-29), 3) := by decide +kernel
theorem dX6_undo_54 : decode cX6_undo 54 = .ok (.aload_n 0, 1) := by decide +kernel
theorem dX6_undo_55 : decode cX6_undo 55 = .ok (.getfield 89, 3) := by decide +kernel
theorem dX6_undo_58 : decode cX6_undo 58 = .ok (.ireturn, 1) := by decide +kernel
theorem dX6_holds_0 : decode cX6_holds 0 = .ok (.iconst 0, 1) := by decide +kernel
theorem dX6_holds_1 : decode cX6_holds 1 = .ok (.istore_n 1, 1) := by decide +kernel
theorem dX6_holds_2 : decode cX6_holds 2 = .ok (.iload_n 1, 1) := by decide +kernel
theorem dX6_holds_3 : decode cX6_holds 3 = .ok (.bipush 73, 2) := by decide +kernel
theorem dX6_holds_5 : decode cX6_holds 5 = .ok (.if_icmp .ge 21, 3) := by decide +kernel
theorem dX6_holds_8 : decode cX6_holds 8 = .ok (.aload_n 0, 1) := by decide +kernel
theorem dX6_holds_9 : decode cX6_holds 9 = .ok (.getfield 37, 3) := by decide +kernel
theorem dX6_holds_12 : decode cX6_holds 12 = .ok (.iload_n 1, 1) := by decide +kernel
theorem dX6_holds_13 : decode cX6_holds 13 = .ok (.aload_n 0, 1) := by decide +kernel
theorem dX6_holds_14 : decode cX6_holds 14 = .ok (.getfield 22, 3) := by decide +kernel
theorem dX6_holds_17 : decode cX6_holds 17 = .ok (.iload_n 1, 1) := by decide +kernel
theorem dX6_holds_18 : decode cX6_holds 18 = .ok (.iaload, 1) := by decide +kernel
theorem dX6_holds_19 : decode cX6_holds 19 = .ok (.iastore, 1) := by decide +kernel
theorem dX6_holds_20 : decode cX6_holds 20 = .ok (.iinc 1 1, 3) := by decide +kernel
theorem dX6_holds_23 : decode cX6_holds 23 = .ok (.goto (-21), 3) := by decide +kernel
theorem dX6_holds_26 : decode cX6_holds 26 = .ok (.return_, 1) := by decide +kernel
theorem dX6_lets_0 : decode cX6_lets 0 = .ok (.iconst 0, 1) := by decide +kernel
theorem dX6_lets_1 : decode cX6_lets 1 = .ok (.istore_n 1, 1) := by decide +kernel
theorem dX6_lets_2 : decode cX6_lets 2 = .ok (.iload_n 1, 1) := by decide +kernel
theorem dX6_lets_3 : decode cX6_lets 3 = .ok (.bipush 73, 2) := by decide +kernel
theorem dX6_lets_5 : decode cX6_lets 5 = .ok (.if_icmp .ge 21, 3) := by decide +kernel
theorem dX6_lets_8 : decode cX6_lets 8 = .ok (.aload_n 0, 1) := by decide +kernel
theorem dX6_lets_9 : decode cX6_lets 9 = .ok (.getfield 22, 3) := by decide +kernel
theorem dX6_lets_12 : decode cX6_lets 12 = .ok (.iload_n 1, 1) := by decide +kernel
theorem dX6_lets_13 : decode cX6_lets 13 = .ok (.aload_n 0, 1) := by decide +kernel
theorem dX6_lets_14 : decode cX6_lets 14 = .ok (.getfield 37, 3) := by decide +kernel
theorem dX6_lets_17 : decode cX6_lets 17 = .ok (.iload_n 1, 1) := by decide +kernel
theorem dX6_lets_18 : decode cX6_lets 18 = .ok (.iaload, 1) := by decide +kernel
theorem dX6_lets_19 : decode cX6_lets 19 = .ok (.iastore, 1) := by decide +kernel
theorem dX6_lets_20 : decode cX6_lets 20 = .ok (.iinc 1 1, 3) := by decide +kernel
theorem dX6_lets_23 : decode cX6_lets 23 = .ok (.goto (-21), 3) := by decide +kernel
theorem dX6_lets_26 : decode cX6_lets 26 = .ok (.return_, 1) := by decide +kernel
theorem dX6_behind_0 : decode cX6_behind 0 = .ok (.iload_n 1, 1) := by decide +kernel
theorem dX6_behind_1 : decode cX6_behind 1 = .ok (.iconst 0, 1) := by decide +kernel
theorem dX6_behind_2 : decode cX6_behind 2 = .ok (.bipush 40, 2) := by decide +kernel
theorem dX6_behind_4 : decode cX6_behind 4 = .ok (.invokestatic 57, 3) := by decide +kernel
theorem dX6_behind_7 : decode cX6_behind 7 = .ok (.ifCond .eq 20, 3) := by decide +kernel
theorem dX6_behind_10 : decode cX6_behind 10 = .ok (.aload_n 0, 1) := by decide +kernel
theorem dX6_behind_11 : decode cX6_behind 11 = .ok (.iload_n 2, 1) := by decide +kernel
theorem dX6_behind_12 : decode cX6_behind 12 = .ok (.invokevirtual 98, 3) := by decide +kernel
theorem dX6_behind_15 : decode cX6_behind 15 = .ok (.ifCond .eq 12, 3) := by decide +kernel
theorem dX6_behind_18 : decode cX6_behind 18 = .ok (.iload_n 3, 1) := by decide +kernel
theorem dX6_behind_19 : decode cX6_behind 19 = .ok (.iconst 0, 1) := by decide +kernel
theorem dX6_behind_20 : decode cX6_behind 20 = .ok (.iconst 1, 1) := by decide +kernel
theorem dX6_behind_21 : decode cX6_behind 21 = .ok (.invokestatic 57, 3) := by decide +kernel
theorem dX6_behind_24 : decode cX6_behind 24 = .ok (.ifCond .ne 5, 3) := by decide +kernel
theorem dX6_behind_27 : decode cX6_behind 27 = .ok (.iconst (-1), 1) := by decide +kernel
theorem dX6_behind_28 : decode cX6_behind 28 = .ok (.ireturn, 1) := by decide +kernel
theorem dX6_behind_29 : decode cX6_behind 29 = .ok (.aload_n 0, 1) := by decide +kernel
theorem dX6_behind_30 : decode cX6_behind 30 = .ok (.invokevirtual 137, 3) := by decide +kernel
theorem dX6_behind_33 : decode cX6_behind 33 = .ok (.iconst 0, 1) := by decide +kernel
theorem dX6_behind_34 : decode cX6_behind 34 = .ok (.istore 4, 2) := by decide +kernel
theorem dX6_behind_36 : decode cX6_behind 36 = .ok (.iload 4, 2) := by decide +kernel
theorem dX6_behind_38 : decode cX6_behind 38 = .ok (.iload_n 1, 1) := by decide +kernel
theorem dX6_behind_39 : decode cX6_behind 39 = .ok (.if_icmp .ge 13, 3) := by decide +kernel
theorem dX6_behind_42 : decode cX6_behind 42 = .ok (.aload_n 0, 1) := by decide +kernel
theorem dX6_behind_43 : decode cX6_behind 43 = .ok (.invokevirtual 134, 3) := by decide +kernel
theorem dX6_behind_46 : decode cX6_behind 46 = .ok (.iinc 4 1, 3) := by decide +kernel
theorem dX6_behind_49 : decode cX6_behind 49 = .ok (.goto (-13), 3) := by decide +kernel
theorem dX6_behind_52 : decode cX6_behind 52 = .ok (.aload_n 0, 1) := by decide +kernel
theorem dX6_behind_53 : decode cX6_behind 53 = .ok (.invokevirtual 118, 3) := by decide +kernel
theorem dX6_behind_56 : decode cX6_behind 56 = .ok (.iload_n 3, 1) := by decide +kernel
theorem dX6_behind_57 : decode cX6_behind 57 = .ok (.ifCond .ne 12, 3) := by decide +kernel
theorem dX6_behind_60 : decode cX6_behind 60 = .ok (.aload_n 0, 1) := by decide +kernel
theorem dX6_behind_61 : decode cX6_behind 61 = .ok (.getfield 22, 3) := by decide +kernel
theorem dX6_behind_64 : decode cX6_behind 64 = .ok (.iload_n 2, 1) := by decide +kernel
theorem dX6_behind_65 : decode cX6_behind 65 = .ok (.iaload, 1) := by decide +kernel
theorem dX6_behind_66 : decode cX6_behind 66 = .ok (.goto 23, 3) := by decide +kernel
theorem dX6_behind_69 : decode cX6_behind 69 = .ok (.aload_n 0, 1) := by decide +kernel
theorem dX6_behind_70 : decode cX6_behind 70 = .ok (.getfield 34, 3) := by decide +kernel
theorem dX6_behind_73 : decode cX6_behind 73 = .ok (.iload_n 2, 1) := by decide +kernel
theorem dX6_behind_74 : decode cX6_behind 74 = .ok (.iaload, 1) := by decide +kernel
theorem dX6_behind_75 : decode cX6_behind 75 = .ok (.ifCond .ge 8, 3) := by decide +kernel
theorem dX6_behind_78 : decode cX6_behind 78 = .ok (.bipush (-4), 2) := by decide +kernel
theorem dX6_behind_80 : decode cX6_behind 80 = .ok (.goto 9, 3) := by decide +kernel
theorem dX6_behind_83 : decode cX6_behind 83 = .ok (.aload_n 0, 1) := by decide +kernel
theorem dX6_behind_84 : decode cX6_behind 84 = .ok (.getfield 34, 3) := by decide +kernel
theorem dX6_behind_87 : decode cX6_behind 87 = .ok (.iload_n 2, 1) := by decide +kernel
theorem dX6_behind_88 : decode cX6_behind 88 = .ok (.iaload, 1) := by decide +kernel
theorem dX6_behind_89 : decode cX6_behind 89 = .ok (.istore 4, 2) := by decide +kernel
theorem dX6_behind_91 : decode cX6_behind 91 = .ok (.aload_n 0, 1) := by decide +kernel
theorem dX6_behind_92 : decode cX6_behind 92 = .ok (.invokevirtual 140, 3) := by decide +kernel
theorem dX6_behind_95 : decode cX6_behind 95 = .ok (.iload 4, 2) := by decide +kernel
theorem dX6_behind_97 : decode cX6_behind 97 = .ok (.ireturn, 1) := by decide +kernel
theorem dX6_lowest_0 : decode cX6_lowest 0 = .ok (.bipush (-4), 2) := by decide +kernel
theorem dX6_lowest_2 : decode cX6_lowest 2 = .ok (.istore_n 1, 1) := by decide +kernel
theorem dX6_lowest_3 : decode cX6_lowest 3 = .ok (.aload_n 0, 1) := by decide +kernel
theorem dX6_lowest_4 : decode cX6_lowest 4 = .ok (.invokevirtual 53, 3) := by decide +kernel
theorem dX6_lowest_7 : decode cX6_lowest 7 = .ok (.iconst 1, 1) := by decide +kernel
theorem dX6_lowest_8 : decode cX6_lowest 8 = .ok (.isub, 1) := by decide +kernel
theorem dX6_lowest_9 : decode cX6_lowest 9 = .ok (.istore_n 2, 1) := by decide +kernel
theorem dX6_lowest_10 : decode cX6_lowest 10 = .ok (.iload_n 2, 1) := by decide +kernel
theorem dX6_lowest_11 : decode cX6_lowest 11 = .ok (.ifCond .lt 24, 3) := by decide +kernel
theorem dX6_lowest_14 : decode cX6_lowest 14 = .ok (.aload_n 0, 1) := by decide +kernel
theorem dX6_lowest_15 : decode cX6_lowest 15 = .ok (.getfield 22, 3) := by decide +kernel
theorem dX6_lowest_18 : decode cX6_lowest 18 = .ok (.iload_n 2, 1) := by decide +kernel
theorem dX6_lowest_19 : decode cX6_lowest 19 = .ok (.iaload, 1) := by decide +kernel
theorem dX6_lowest_20 : decode cX6_lowest 20 = .ok (.ifCond .le 7, 3) := by decide +kernel
theorem dX6_lowest_23 : decode cX6_lowest 23 = .ok (.iload_n 2, 1) := by decide +kernel
theorem dX6_lowest_24 : decode cX6_lowest 24 = .ok (.goto 4, 3) := by decide +kernel
theorem dX6_lowest_27 : decode cX6_lowest 27 = .ok (.iload_n 1, 1) := by decide +kernel
theorem dX6_lowest_28 : decode cX6_lowest 28 = .ok (.istore_n 1, 1) := by decide +kernel
theorem dX6_lowest_29 : decode cX6_lowest 29 = .ok (.iinc 2 (-1), 3) := by decide +kernel
theorem dX6_lowest_32 : decode cX6_lowest 32 = .ok (.goto (-22), 3) := by decide +kernel
theorem dX6_lowest_35 : decode cX6_lowest 35 = .ok (.iload_n 1, 1) := by decide +kernel
theorem dX6_lowest_36 : decode cX6_lowest 36 = .ok (.ireturn, 1) := by decide +kernel
theorem dX6_dry_0 : decode cX6_dry 0 = .ok (.iload_n 1, 1) := by decide +kernel
theorem dX6_dry_1 : decode cX6_dry 1 = .ok (.iconst 0, 1) := by decide +kernel
theorem dX6_dry_2 : decode cX6_dry 2 = .ok (.iconst 1, 1) := by decide +kernel
theorem dX6_dry_3 : decode cX6_dry 3 = .ok (.invokestatic 57, 3) := by decide +kernel
theorem dX6_dry_6 : decode cX6_dry 6 = .ok (.ifCond .ne 5, 3) := by decide +kernel
theorem dX6_dry_9 : decode cX6_dry 9 = .ok (.iconst (-1), 1) := by decide +kernel
theorem dX6_dry_10 : decode cX6_dry 10 = .ok (.ireturn, 1) := by decide +kernel
theorem dX6_dry_11 : decode cX6_dry 11 = .ok (.aload_n 0, 1) := by decide +kernel
theorem dX6_dry_12 : decode cX6_dry 12 = .ok (.invokevirtual 137, 3) := by decide +kernel
theorem dX6_dry_15 : decode cX6_dry 15 = .ok (.bipush (-4), 2) := by decide +kernel
theorem dX6_dry_17 : decode cX6_dry 17 = .ok (.istore_n 2, 1) := by decide +kernel
theorem dX6_dry_18 : decode cX6_dry 18 = .ok (.bipush (-4), 2) := by decide +kernel
theorem dX6_dry_20 : decode cX6_dry 20 = .ok (.istore_n 3, 1) := by decide +kernel
theorem dX6_dry_21 : decode cX6_dry 21 = .ok (.iconst 0, 1) := by decide +kernel
theorem dX6_dry_22 : decode cX6_dry 22 = .ok (.istore 4, 2) := by decide +kernel
theorem dX6_dry_24 : decode cX6_dry 24 = .ok (.iload 4, 2) := by decide +kernel
theorem dX6_dry_26 : decode cX6_dry 26 = .ok (.bipush 61, 2) := by decide +kernel
theorem dX6_dry_28 : decode cX6_dry 28 = .ok (.if_icmp .ge 54, 3) := by decide +kernel
theorem dX6_dry_31 : decode cX6_dry 31 = .ok (.iload_n 3, 1) := by decide +kernel
theorem dX6_dry_32 : decode cX6_dry 32 = .ok (.bipush (-4), 2) := by decide +kernel
theorem dX6_dry_34 : decode cX6_dry 34 = .ok (.if_icmp .ne 48, 3) := by decide +kernel
theorem dX6_dry_37 : decode cX6_dry 37 = .ok (.aload_n 0, 1) := by decide +kernel
theorem dX6_dry_38 : decode cX6_dry 38 = .ok (.invokevirtual 143, 3) := by decide +kernel
theorem dX6_dry_41 : decode cX6_dry 41 = .ok (.istore 5, 2) := by decide +kernel
theorem dX6_dry_43 : decode cX6_dry 43 = .ok (.iload 5, 2) := by decide +kernel
theorem dX6_dry_45 : decode cX6_dry 45 = .ok (.bipush (-4), 2) := by decide +kernel
theorem dX6_dry_47 : decode cX6_dry 47 = .ok (.if_icmp .ne 8, 3) := by decide +kernel
theorem dX6_dry_50 : decode cX6_dry 50 = .ok (.iload 4, 2) := by decide +kernel
theorem dX6_dry_52 : decode cX6_dry 52 = .ok (.goto 5, 3) := by decide +kernel
theorem dX6_dry_55 : decode cX6_dry 55 = .ok (.bipush (-4), 2) := by decide +kernel
theorem dX6_dry_57 : decode cX6_dry 57 = .ok (.istore_n 3, 1) := by decide +kernel
theorem dX6_dry_58 : decode cX6_dry 58 = .ok (.iload 5, 2) := by decide +kernel
theorem dX6_dry_60 : decode cX6_dry 60 = .ok (.bipush (-4), 2) := by decide +kernel
theorem dX6_dry_62 : decode cX6_dry 62 = .ok (.if_icmp .ne 7, 3) := by decide +kernel
theorem dX6_dry_65 : decode cX6_dry 65 = .ok (.iload_n 2, 1) := by decide +kernel
theorem dX6_dry_66 : decode cX6_dry 66 = .ok (.goto 5, 3) := by decide +kernel
theorem dX6_dry_69 : decode cX6_dry 69 = .ok (.iload 5, 2) := by decide +kernel
theorem dX6_dry_71 : decode cX6_dry 71 = .ok (.istore_n 2, 1) := by decide +kernel
theorem dX6_dry_72 : decode cX6_dry 72 = .ok (.aload_n 0, 1) := by decide +kernel
theorem dX6_dry_73 : decode cX6_dry 73 = .ok (.invokevirtual 134, 3) := by decide +kernel
theorem dX6_dry_76 : decode cX6_dry 76 = .ok (.iinc 4 1, 3) := by decide +kernel
theorem dX6_dry_79 : decode cX6_dry 79 = .ok (.goto (-55), 3) := by decide +kernel
theorem dX6_dry_82 : decode cX6_dry 82 = .ok (.aload_n 0, 1) := by decide +kernel
theorem dX6_dry_83 : decode cX6_dry 83 = .ok (.invokevirtual 140, 3) := by decide +kernel
theorem dX6_dry_86 : decode cX6_dry 86 = .ok (.iload_n 1, 1) := by decide +kernel
theorem dX6_dry_87 : decode cX6_dry 87 = .ok (.ifCond .eq 9, 3) := by decide +kernel
theorem dX6_dry_90 : decode cX6_dry 90 = .ok (.iload_n 3, 1) := by decide +kernel
theorem dX6_dry_91 : decode cX6_dry 91 = .ok (.bipush (-4), 2) := by decide +kernel
theorem dX6_dry_93 : decode cX6_dry 93 = .ok (.if_icmp .ne 7, 3) := by decide +kernel
theorem dX6_dry_96 : decode cX6_dry 96 = .ok (.iload_n 3, 1) := by decide +kernel
theorem dX6_dry_97 : decode cX6_dry 97 = .ok (.goto 4, 3) := by decide +kernel
theorem dX6_dry_100 : decode cX6_dry 100 = .ok (.iload_n 2, 1) := by decide +kernel
theorem dX6_dry_101 : decode cX6_dry 101 = .ok (.ireturn, 1) := by decide +kernel
theorem dX6_isOne_0 : decode cX6_isOne 0 = .ok (.aload_n 0, 1) := by decide +kernel
theorem dX6_isOne_1 : decode cX6_isOne 1 = .ok (.invokevirtual 118, 3) := by decide +kernel
theorem dX6_isOne_4 : decode cX6_isOne 4 = .ok (.aload_n 0, 1) := by decide +kernel
theorem dX6_isOne_5 : decode cX6_isOne 5 = .ok (.getfield 34, 3) := by decide +kernel
theorem dX6_isOne_8 : decode cX6_isOne 8 = .ok (.iload_n 1, 1) := by decide +kernel
theorem dX6_isOne_9 : decode cX6_isOne 9 = .ok (.iaload, 1) := by decide +kernel
theorem dX6_isOne_10 : decode cX6_isOne 10 = .ok (.ifCond .lt 22, 3) := by decide +kernel
theorem dX6_isOne_13 : decode cX6_isOne 13 = .ok (.aload_n 0, 1) := by decide +kernel
theorem dX6_isOne_14 : decode cX6_isOne 14 = .ok (.getfield 34, 3) := by decide +kernel
theorem dX6_isOne_17 : decode cX6_isOne 17 = .ok (.iload_n 1, 1) := by decide +kernel
theorem dX6_isOne_18 : decode cX6_isOne 18 = .ok (.iaload, 1) := by decide +kernel
theorem dX6_isOne_19 : decode cX6_isOne 19 = .ok (.aload_n 0, 1) := by decide +kernel
theorem dX6_isOne_20 : decode cX6_isOne 20 = .ok (.getfield 34, 3) := by decide +kernel
theorem dX6_isOne_23 : decode cX6_isOne 23 = .ok (.iload_n 2, 1) := by decide +kernel
theorem dX6_isOne_24 : decode cX6_isOne 24 = .ok (.iaload, 1) := by decide +kernel
theorem dX6_isOne_25 : decode cX6_isOne 25 = .ok (.if_icmp .ne 7, 3) := by decide +kernel
theorem dX6_isOne_28 : decode cX6_isOne 28 = .ok (.iconst 1, 1) := by decide +kernel
theorem dX6_isOne_29 : decode cX6_isOne 29 = .ok (.goto 4, 3) := by decide +kernel
theorem dX6_isOne_32 : decode cX6_isOne 32 = .ok (.iconst 0, 1) := by decide +kernel
theorem dX6_isOne_33 : decode cX6_isOne 33 = .ok (.ireturn, 1) := by decide +kernel
theorem dX6_join_0 : decode cX6_join 0 = .ok (.aload_n 0, 1) := by decide +kernel
theorem dX6_join_1 : decode cX6_join 1 = .ok (.iload_n 1, 1) := by decide +kernel
theorem dX6_join_2 : decode cX6_join 2 = .ok (.invokevirtual 98, 3) := by decide +kernel
theorem dX6_join_5 : decode cX6_join 5 = .ok (.ifCond .eq 16, 3) := by decide +kernel
theorem dX6_join_8 : decode cX6_join 8 = .ok (.aload_n 0, 1) := by decide +kernel
theorem dX6_join_9 : decode cX6_join 9 = .ok (.iload_n 2, 1) := by decide +kernel
theorem dX6_join_10 : decode cX6_join 10 = .ok (.invokevirtual 98, 3) := by decide +kernel
theorem dX6_join_13 : decode cX6_join 13 = .ok (.ifCond .eq 8, 3) := by decide +kernel
theorem dX6_join_16 : decode cX6_join 16 = .ok (.iload_n 1, 1) := by decide +kernel
theorem dX6_join_17 : decode cX6_join 17 = .ok (.iload_n 2, 1) := by decide +kernel
theorem dX6_join_18 : decode cX6_join 18 = .ok (.if_icmp .ne 5, 3) := by decide +kernel
theorem dX6_join_21 : decode cX6_join 21 = .ok (.iconst (-1), 1) := by decide +kernel
theorem dX6_join_22 : decode cX6_join 22 = .ok (.ireturn, 1) := by decide +kernel
theorem dX6_join_23 : decode cX6_join 23 = .ok (.aload_n 0, 1) := by decide +kernel
theorem dX6_join_24 : decode cX6_join 24 = .ok (.invokevirtual 137, 3) := by decide +kernel
theorem dX6_join_27 : decode cX6_join 27 = .ok (.bipush (-4), 2) := by decide +kernel
theorem dX6_join_29 : decode cX6_join 29 = .ok (.istore_n 3, 1) := by decide +kernel
theorem dX6_join_30 : decode cX6_join 30 = .ok (.iconst 0, 1) := by decide +kernel
theorem dX6_join_31 : decode cX6_join 31 = .ok (.istore 4, 2) := by decide +kernel
theorem dX6_join_33 : decode cX6_join 33 = .ok (.iload 4, 2) := by decide +kernel
theorem dX6_join_35 : decode cX6_join 35 = .ok (.bipush 31, 2) := by decide +kernel
theorem dX6_join_37 : decode cX6_join 37 = .ok (.if_icmp .ge 47, 3) := by decide +kernel
theorem dX6_join_40 : decode cX6_join 40 = .ok (.iload_n 3, 1) := by decide +kernel
theorem dX6_join_41 : decode cX6_join 41 = .ok (.bipush (-4), 2) := by decide +kernel
theorem dX6_join_43 : decode cX6_join 43 = .ok (.if_icmp .ne 41, 3) := by decide +kernel
theorem dX6_join_46 : decode cX6_join 46 = .ok (.iload 4, 2) := by decide +kernel
theorem dX6_join_48 : decode cX6_join 48 = .ok (.ifCond .le 9, 3) := by decide +kernel
theorem dX6_join_51 : decode cX6_join 51 = .ok (.aload_n 0, 1) := by decide +kernel
theorem dX6_join_52 : decode cX6_join 52 = .ok (.iload 4, 2) := by decide +kernel
theorem dX6_join_54 : decode cX6_join 54 = .ok (.invokevirtual 127, 3) := by decide +kernel
theorem dX6_join_57 : decode cX6_join 57 = .ok (.aload_n 0, 1) := by decide +kernel
theorem dX6_join_58 : decode cX6_join 58 = .ok (.iload_n 1, 1) := by decide +kernel
theorem dX6_join_59 : decode cX6_join 59 = .ok (.iload_n 2, 1) := by decide +kernel
theorem dX6_join_60 : decode cX6_join 60 = .ok (.invokevirtual 146, 3) := by decide +kernel
theorem dX6_join_63 : decode cX6_join 63 = .ok (.ifCond .eq 8, 3) := by decide +kernel
theorem dX6_join_66 : decode cX6_join 66 = .ok (.iload 4, 2) := by decide +kernel
theorem dX6_join_68 : decode cX6_join 68 = .ok (.goto 5, 3) := by decide +kernel
theorem dX6_join_71 : decode cX6_join 71 = .ok (.bipush (-4), 2) := by decide +kernel
theorem dX6_join_73 : decode cX6_join 73 = .ok (.istore_n 3, 1) := by decide +kernel
theorem dX6_join_74 : decode cX6_join 74 = .ok (.aload_n 0, 1) := by decide +kernel
theorem dX6_join_75 : decode cX6_join 75 = .ok (.invokevirtual 140, 3) := by decide +kernel
theorem dX6_join_78 : decode cX6_join 78 = .ok (.iinc 4 1, 3) := by decide +kernel
theorem dX6_join_81 : decode cX6_join 81 = .ok (.goto (-48), 3) := by decide +kernel
theorem dX6_join_84 : decode cX6_join 84 = .ok (.iload_n 3, 1) := by decide +kernel
theorem dX6_join_85 : decode cX6_join 85 = .ok (.ireturn, 1) := by decide +kernel
theorem dX6_part_0 : decode cX6_part 0 = .ok (.aload_n 0, 1) := by decide +kernel
theorem dX6_part_1 : decode cX6_part 1 = .ok (.iload_n 1, 1) := by decide +kernel
theorem dX6_part_2 : decode cX6_part 2 = .ok (.invokevirtual 98, 3) := by decide +kernel
theorem dX6_part_5 : decode cX6_part 5 = .ok (.ifCond .eq 16, 3) := by decide +kernel
theorem dX6_part_8 : decode cX6_part 8 = .ok (.aload_n 0, 1) := by decide +kernel
theorem dX6_part_9 : decode cX6_part 9 = .ok (.iload_n 2, 1) := by decide +kernel
theorem dX6_part_10 : decode cX6_part 10 = .ok (.invokevirtual 98, 3) := by decide +kernel
theorem dX6_part_13 : decode cX6_part 13 = .ok (.ifCond .eq 8, 3) := by decide +kernel
theorem dX6_part_16 : decode cX6_part 16 = .ok (.iload_n 1, 1) := by decide +kernel
theorem dX6_part_17 : decode cX6_part 17 = .ok (.iload_n 2, 1) := by decide +kernel
theorem dX6_part_18 : decode cX6_part 18 = .ok (.if_icmp .ne 5, 3) := by decide +kernel
theorem dX6_part_21 : decode cX6_part 21 = .ok (.iconst (-1), 1) := by decide +kernel
theorem dX6_part_22 : decode cX6_part 22 = .ok (.ireturn, 1) := by decide +kernel
theorem dX6_part_23 : decode cX6_part 23 = .ok (.aload_n 0, 1) := by decide +kernel
theorem dX6_part_24 : decode cX6_part 24 = .ok (.iload_n 1, 1) := by decide +kernel
theorem dX6_part_25 : decode cX6_part 25 = .ok (.iload_n 2, 1) := by decide +kernel
theorem dX6_part_26 : decode cX6_part 26 = .ok (.invokevirtual 146, 3) := by decide +kernel
theorem dX6_part_29 : decode cX6_part 29 = .ok (.ifCond .ne 6, 3) := by decide +kernel
theorem dX6_part_32 : decode cX6_part 32 = .ok (.bipush (-2), 2) := by decide +kernel
theorem dX6_part_34 : decode cX6_part 34 = .ok (.ireturn, 1) := by decide +kernel
theorem dX6_part_35 : decode cX6_part 35 = .ok (.aload_n 0, 1) := by decide +kernel
theorem dX6_part_36 : decode cX6_part 36 = .ok (.invokevirtual 137, 3) := by decide +kernel
theorem dX6_part_39 : decode cX6_part 39 = .ok (.bipush (-4), 2) := by decide +kernel
theorem dX6_part_41 : decode cX6_part 41 = .ok (.istore_n 3, 1) := by decide +kernel
theorem dX6_part_42 : decode cX6_part 42 = .ok (.iconst 1, 1) := by decide +kernel
theorem dX6_part_43 : decode cX6_part 43 = .ok (.istore 4, 2) := by decide +kernel
theorem dX6_part_45 : decode cX6_part 45 = .ok (.iload 4, 2) := by decide +kernel
theorem dX6_part_47 : decode cX6_part 47 = .ok (.bipush 61, 2) := by decide +kernel
theorem dX6_part_49 : decode cX6_part 49 = .ok (.if_icmp .ge 36, 3) := by decide +kernel
theorem dX6_part_52 : decode cX6_part 52 = .ok (.iload_n 3, 1) := by decide +kernel
theorem dX6_part_53 : decode cX6_part 53 = .ok (.bipush (-4), 2) := by decide +kernel
theorem dX6_part_55 : decode cX6_part 55 = .ok (.if_icmp .ne 30, 3) := by decide +kernel
theorem dX6_part_58 : decode cX6_part 58 = .ok (.aload_n 0, 1) := by decide +kernel
theorem dX6_part_59 : decode cX6_part 59 = .ok (.invokevirtual 134, 3) := by decide +kernel
theorem dX6_part_62 : decode cX6_part 62 = .ok (.aload_n 0, 1) := by decide +kernel
theorem dX6_part_63 : decode cX6_part 63 = .ok (.iload_n 1, 1) := by decide +kernel
theorem dX6_part_64 : decode cX6_part 64 = .ok (.iload_n 2, 1) := by decide +kernel
theorem dX6_part_65 : decode cX6_part 65 = .ok (.invokevirtual 146, 3) := by decide +kernel
theorem dX6_part_68 : decode cX6_part 68 = .ok (.ifCond .eq 8, 3) := by decide +kernel
theorem dX6_part_71 : decode cX6_part 71 = .ok (.bipush (-4), 2) := by decide +kernel
theorem dX6_part_73 : decode cX6_part 73 = .ok (.goto 5, 3) := by decide +kernel
theorem dX6_part_76 : decode cX6_part 76 = .ok (.iload 4, 2) := by decide +kernel
theorem dX6_part_78 : decode cX6_part 78 = .ok (.istore_n 3, 1) := by decide +kernel
theorem dX6_part_79 : decode cX6_part 79 = .ok (.iinc 4 1, 3) := by decide +kernel
theorem dX6_part_82 : decode cX6_part 82 = .ok (.goto (-37), 3) := by decide +kernel
theorem dX6_part_85 : decode cX6_part 85 = .ok (.aload_n 0, 1) := by decide +kernel
theorem dX6_part_86 : decode cX6_part 86 = .ok (.invokevirtual 140, 3) := by decide +kernel
theorem dX6_part_89 : decode cX6_part 89 = .ok (.iload_n 3, 1) := by decide +kernel
theorem dX6_part_90 : decode cX6_part 90 = .ok (.ireturn, 1) := by decide +kernel
theorem dX6_way_0 : decode cX6_way 0 = .ok (.aload_n 0, 1) := by decide +kernel
theorem dX6_way_1 : decode cX6_way 1 = .ok (.iload_n 1, 1) := by decide +kernel
theorem dX6_way_2 : decode cX6_way 2 = .ok (.invokevirtual 98, 3) := by decide +kernel
theorem dX6_way_5 : decode cX6_way 5 = .ok (.ifCond .eq 11, 3) := by decide +kernel
theorem dX6_way_8 : decode cX6_way 8 = .ok (.aload_n 0, 1) := by decide +kernel
theorem dX6_way_9 : decode cX6_way 9 = .ok (.iload_n 2, 1) := by decide +kernel
theorem dX6_way_10 : decode cX6_way 10 = .ok (.invokevirtual 98, 3) := by decide +kernel
theorem dX6_way_13 : decode cX6_way 13 = .ok (.ifCond .ne 5, 3) := by decide +kernel
theorem dX6_way_16 : decode cX6_way 16 = .ok (.iconst (-1), 1) := by decide +kernel
theorem dX6_way_17 : decode cX6_way 17 = .ok (.ireturn, 1) := by decide +kernel
theorem dX6_way_18 : decode cX6_way 18 = .ok (.aload_n 0, 1) := by decide +kernel
theorem dX6_way_19 : decode cX6_way 19 = .ok (.getfield 22, 3) := by decide +kernel
theorem dX6_way_22 : decode cX6_way 22 = .ok (.iload_n 1, 1) := by decide +kernel
theorem dX6_way_23 : decode cX6_way 23 = .ok (.iaload, 1) := by decide +kernel
theorem dX6_way_24 : decode cX6_way 24 = .ok (.ifCond .ne 6, 3) := by decide +kernel
theorem dX6_way_27 : decode cX6_way 27 = .ok (.bipush (-4), 2) := by decide +kernel
theorem dX6_way_29 : decode cX6_way 29 = .ok (.ireturn, 1) := by decide +kernel
theorem dX6_way_30 : decode cX6_way 30 = .ok (.aload_n 0, 1) := by decide +kernel
theorem dX6_way_31 : decode cX6_way 31 = .ok (.invokevirtual 137, 3) := by decide +kernel
theorem dX6_way_34 : decode cX6_way 34 = .ok (.iconst 0, 1) := by decide +kernel
theorem dX6_way_35 : decode cX6_way 35 = .ok (.istore_n 3, 1) := by decide +kernel
theorem dX6_way_36 : decode cX6_way 36 = .ok (.iload_n 3, 1) := by decide +kernel
theorem dX6_way_37 : decode cX6_way 37 = .ok (.aload_n 0, 1) := by decide +kernel
theorem dX6_way_38 : decode cX6_way 38 = .ok (.invokevirtual 53, 3) := by decide +kernel
theorem dX6_way_41 : decode cX6_way 41 = .ok (.if_icmp .ge 25, 3) := by decide +kernel
theorem dX6_way_44 : decode cX6_way 44 = .ok (.aload_n 0, 1) := by decide +kernel
theorem dX6_way_45 : decode cX6_way 45 = .ok (.getfield 40, 3) := by decide +kernel
theorem dX6_way_48 : decode cX6_way 48 = .ok (.iload_n 3, 1) := by decide +kernel
theorem dX6_way_49 : decode cX6_way 49 = .ok (.iload_n 3, 1) := by decide +kernel
theorem dX6_way_50 : decode cX6_way 50 = .ok (.iload_n 1, 1) := by decide +kernel
theorem dX6_way_51 : decode cX6_way 51 = .ok (.if_icmp .ne 7, 3) := by decide +kernel
theorem dX6_way_54 : decode cX6_way 54 = .ok (.iconst 1, 1) := by decide +kernel
theorem dX6_way_55 : decode cX6_way 55 = .ok (.goto 4, 3) := by decide +kernel
theorem dX6_way_58 : decode cX6_way 58 = .ok (.iconst 0, 1) := by decide +kernel
theorem dX6_way_59 : decode cX6_way 59 = .ok (.bastore, 1) := by decide +kernel
theorem dX6_way_60 : decode cX6_way 60 = .ok (.iinc 3 1, 3) := by decide +kernel
theorem dX6_way_63 : decode cX6_way 63 = .ok (.goto (-27), 3) := by decide +kernel
theorem dX6_way_66 : decode cX6_way 66 = .ok (.iload_n 1, 1) := by decide +kernel
theorem dX6_way_67 : decode cX6_way 67 = .ok (.iload_n 2, 1) := by decide +kernel
theorem dX6_way_68 : decode cX6_way 68 = .ok (.if_icmp .ne 7, 3) := by decide +kernel
theorem dX6_way_71 : decode cX6_way 71 = .ok (.iconst 0, 1) := by decide +kernel
theorem dX6_way_72 : decode cX6_way 72 = .ok (.goto 5, 3) := by decide +kernel
theorem dX6_way_75 : decode cX6_way 75 = .ok (.bipush (-4), 2) := by decide +kernel
theorem dX6_way_77 : decode cX6_way 77 = .ok (.istore_n 3, 1) := by decide +kernel
theorem dX6_way_78 : decode cX6_way 78 = .ok (.iconst 1, 1) := by decide +kernel
theorem dX6_way_79 : decode cX6_way 79 = .ok (.istore 4, 2) := by decide +kernel
theorem dX6_way_81 : decode cX6_way 81 = .ok (.iload 4, 2) := by decide +kernel
theorem dX6_way_83 : decode cX6_way 83 = .ok (.bipush 41, 2) := by decide +kernel
theorem dX6_way_85 : decode cX6_way 85 = .ok (.if_icmp .ge 212, 3) := by decide +kernel
theorem dX6_way_88 : decode cX6_way 88 = .ok (.iload_n 3, 1) := by decide +kernel
theorem dX6_way_89 : decode cX6_way 89 = .ok (.bipush (-4), 2) := by decide +kernel
theorem dX6_way_91 : decode cX6_way 91 = .ok (.if_icmp .ne 206, 3) := by decide +kernel
theorem dX6_way_94 : decode cX6_way 94 = .ok (.iconst 0, 1) := by decide +kernel
theorem dX6_way_95 : decode cX6_way 95 = .ok (.istore 5, 2) := by decide +kernel
theorem dX6_way_97 : decode cX6_way 97 = .ok (.iload 5, 2) := by decide +kernel
theorem dX6_way_99 : decode cX6_way 99 = .ok (.aload_n 0, 1) := by decide +kernel
theorem dX6_way_100 : decode cX6_way 100 = .ok (.invokevirtual 53, 3) := by decide +kernel
theorem dX6_way_103 : decode cX6_way 103 = .ok (.if_icmp .ge 117, 3) := by decide +kernel
theorem dX6_way_106 : decode cX6_way 106 = .ok (.aload_n 0, 1) := by decide +kernel
theorem dX6_way_107 : decode cX6_way 107 = .ok (.getfield 44, 3) := by decide +kernel
theorem dX6_way_110 : decode cX6_way 110 = .ok (.iload 5, 2) := by decide +kernel
theorem dX6_way_112 : decode cX6_way 112 = .ok (.aload_n 0, 1) := by decide +kernel
theorem dX6_way_113 : decode cX6_way 113 = .ok (.getfield 40, 3) := by decide +kernel
theorem dX6_way_116 : decode cX6_way 116 = .ok (.iload 5, 2) := by decide +kernel
theorem dX6_way_118 : decode cX6_way 118 = .ok (.baload, 1) := by decide +kernel
theorem dX6_way_119 : decode cX6_way 119 = .ok (.bastore, 1) := by decide +kernel
theorem dX6_way_120 : decode cX6_way 120 = .ok (.iconst 0, 1) := by decide +kernel
theorem dX6_way_121 : decode cX6_way 121 = .ok (.istore 6, 2) := by decide +kernel
theorem dX6_way_123 : decode cX6_way 123 = .ok (.iload 6, 2) := by decide +kernel
theorem dX6_way_125 : decode cX6_way 125 = .ok (.iconst 4, 1) := by decide +kernel
theorem dX6_way_126 : decode cX6_way 126 = .ok (.if_icmp .ge 56, 3) := by decide +kernel
theorem dX6_way_129 : decode cX6_way 129 = .ok (.aload_n 0, 1) := by decide +kernel
theorem dX6_way_130 : decode cX6_way 130 = .ok (.iload 5, 2) := by decide +kernel
theorem dX6_way_132 : decode cX6_way 132 = .ok (.iload 6, 2) := by decide +kernel
theorem dX6_way_134 : decode cX6_way 134 = .ok (.invokevirtual 101, 3) := by decide +kernel
theorem dX6_way_137 : decode cX6_way 137 = .ok (.istore 7, 2) := by decide +kernel
theorem dX6_way_139 : decode cX6_way 139 = .ok (.aload_n 0, 1) := by decide +kernel
theorem dX6_way_140 : decode cX6_way 140 = .ok (.getfield 44, 3) := by decide +kernel
theorem dX6_way_143 : decode cX6_way 143 = .ok (.iload 5, 2) := by decide +kernel
theorem dX6_way_145 : decode cX6_way 145 = .ok (.aload_n 0, 1) := by decide +kernel
theorem dX6_way_146 : decode cX6_way 146 = .ok (.getfield 44, 3) := by decide +kernel
theorem dX6_way_149 : decode cX6_way 149 = .ok (.iload 5, 2) := by decide +kernel
theorem dX6_way_151 : decode cX6_way 151 = .ok (.baload, 1) := by decide +kernel
theorem dX6_way_152 : decode cX6_way 152 = .ok (.ifCond .ne 18, 3) := by decide +kernel
theorem dX6_way_155 : decode cX6_way 155 = .ok (.iload 7, 2) := by decide +kernel
theorem dX6_way_157 : decode cX6_way 157 = .ok (.ifCond .lt 17, 3) := by decide +kernel
theorem dX6_way_160 : decode cX6_way 160 = .ok (.aload_n 0, 1) := by decide +kernel
theorem dX6_way_161 : decode cX6_way 161 = .ok (.getfield 40, 3) := by decide +kernel
theorem dX6_way_164 : decode cX6_way 164 = .ok (.iload 7, 2) := by decide +kernel
theorem dX6_way_166 : decode cX6_way 166 = .ok (.baload, 1) := by decide +kernel
theorem dX6_way_167 : decode cX6_way 167 = .ok (.ifCond .eq 7, 3) := by decide +kernel
theorem dX6_way_170 : decode cX6_way 170 = .ok (.iconst 1, 1) := by decide +kernel
theorem dX6_way_171 : decode cX6_way 171 = .ok (.goto 4, 3) := by decide +kernel
theorem dX6_way_174 : decode cX6_way 174 = .ok (.iconst 0, 1) := by decide +kernel
theorem dX6_way_175 : decode cX6_way 175 = .ok (.bastore, 1) := by decide +kernel
theorem dX6_way_176 : decode cX6_way 176 = .ok (.iinc 6 1, 3) := by decide +kernel
theorem dX6_way_179 : decode cX6_way 179 = .ok (.goto (-56), 3) := by decide +kernel
theorem dX6_way_182 : decode cX6_way 182 = .ok (.aload_n 0, 1) := by decide +kernel
theorem dX6_way_183 : decode cX6_way 183 = .ok (.getfield 44, 3) := by decide +kernel
theorem dX6_way_186 : decode cX6_way 186 = .ok (.iload 5, 2) := by decide +kernel
theorem dX6_way_188 : decode cX6_way 188 = .ok (.aload_n 0, 1) := by decide +kernel
theorem dX6_way_189 : decode cX6_way 189 = .ok (.getfield 44, 3) := by decide +kernel
theorem dX6_way_192 : decode cX6_way 192 = .ok (.iload 5, 2) := by decide +kernel
theorem dX6_way_194 : decode cX6_way 194 = .ok (.baload, 1) := by decide +kernel
theorem dX6_way_195 : decode cX6_way 195 = .ok (.ifCond .eq 17, 3) := by decide +kernel
theorem dX6_way_198 : decode cX6_way 198 = .ok (.aload_n 0, 1) := by decide +kernel
theorem dX6_way_199 : decode cX6_way 199 = .ok (.getfield 22, 3) := by decide +kernel
