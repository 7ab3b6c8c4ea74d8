theorem dX0_init_0 : decode cX0_init 0 = .ok (.aload_n 0, 1) := by decide +kernel
theorem dX0_init_1 : decode cX0_init 1 = .ok (.invokespecial 3, 3) := by decide +kernel
theorem dX0_init_4 : decode cX0_init 4 = .ok (.aload_n 0, 1) := by decide +kernel
theorem dX0_init_5 : decode cX0_init 5 = .ok (.iconst 0, 1) := by decide +kernel
theorem dX0_init_6 : decode cX0_init 6 = .ok (.putfield 9, 3) := by decide +kernel
theorem dX0_init_9 : decode cX0_init 9 = .ok (.aload_n 0, 1) := by decide +kernel
theorem dX0_init_10 : decode cX0_init 10 = .ok (.iconst 0, 1) := by decide +kernel
theorem dX0_init_11 : decode cX0_init 11 = .ok (.putfield 15, 3) := by decide +kernel
theorem dX0_init_14 : decode cX0_init 14 = .ok (.aload_n 0, 1) := by decide +kernel
theorem dX0_init_15 : decode cX0_init 15 = .ok (.iconst 0, 1) := by decide +kernel
theorem dX0_init_16 : decode cX0_init 16 = .ok (.putfield 18, 3) := by decide +kernel
theorem dX0_init_19 : decode cX0_init 19 = .ok (.aload_n 0, 1) := by decide +kernel
theorem dX0_init_20 : decode cX0_init 20 = .ok (.bipush 36, 2) := by decide +kernel
theorem dX0_init_22 : decode cX0_init 22 = .ok (.newarray .int, 2) := by decide +kernel
theorem dX0_init_24 : decode cX0_init 24 = .ok (.putfield 21, 3) := by decide +kernel
theorem dX0_init_27 : decode cX0_init 27 = .ok (.aload_n 0, 1) := by decide +kernel
theorem dX0_init_28 : decode cX0_init 28 = .ok (.sipush 144, 3) := by decide +kernel
theorem dX0_init_31 : decode cX0_init 31 = .ok (.newarray .int, 2) := by decide +kernel
theorem dX0_init_33 : decode cX0_init 33 = .ok (.putfield 25, 3) := by decide +kernel
theorem dX0_init_36 : decode cX0_init 36 = .ok (.aload_n 0, 1) := by decide +kernel
theorem dX0_init_37 : decode cX0_init 37 = .ok (.bipush 36, 2) := by decide +kernel
theorem dX0_init_39 : decode cX0_init 39 = .ok (.newarray .long, 2) := by decide +kernel
theorem dX0_init_41 : decode cX0_init 41 = .ok (.putfield 28, 3) := by decide +kernel
theorem dX0_init_44 : decode cX0_init 44 = .ok (.return_, 1) := by decide +kernel
theorem dX0_holds_0 : decode cX0_holds 0 = .ok (.iload_n 1, 1) := by decide +kernel
theorem dX0_holds_1 : decode cX0_holds 1 = .ok (.ifCond .lt 21, 3) := by decide +kernel
theorem dX0_holds_4 : decode cX0_holds 4 = .ok (.iload_n 1, 1) := by decide +kernel
theorem dX0_holds_5 : decode cX0_holds 5 = .ok (.aload_n 0, 1) := by decide +kernel
theorem dX0_holds_6 : decode cX0_holds 6 = .ok (.getfield 18, 3) := by decide +kernel
theorem dX0_holds_9 : decode cX0_holds 9 = .ok (.if_icmp .ge 13, 3) := by decide +kernel
theorem dX0_holds_12 : decode cX0_holds 12 = .ok (.iload_n 1, 1) := by decide +kernel
theorem dX0_holds_13 : decode cX0_holds 13 = .ok (.bipush 36, 2) := by decide +kernel
theorem dX0_holds_15 : decode cX0_holds 15 = .ok (.if_icmp .ge 7, 3) := by decide +kernel
theorem dX0_holds_18 : decode cX0_holds 18 = .ok (.iconst 1, 1) := by decide +kernel
theorem dX0_holds_19 : decode cX0_holds 19 = .ok (.goto 4, 3) := by decide +kernel
theorem dX0_holds_22 : decode cX0_holds 22 = .ok (.iconst 0, 1) := by decide +kernel
theorem dX0_holds_23 : decode cX0_holds 23 = .ok (.ireturn, 1) := by decide +kernel
theorem dX0_shape_0 : decode cX0_shape 0 = .ok (.iload_n 1, 1) := by decide +kernel
theorem dX0_shape_1 : decode cX0_shape 1 = .ok (.iconst 2, 1) := by decide +kernel
theorem dX0_shape_2 : decode cX0_shape 2 = .ok (.bipush 6, 2) := by decide +kernel
theorem dX0_shape_4 : decode cX0_shape 4 = .ok (.invokestatic 32, 3) := by decide +kernel
theorem dX0_shape_7 : decode cX0_shape 7 = .ok (.ifCond .eq 13, 3) := by decide +kernel
theorem dX0_shape_10 : decode cX0_shape 10 = .ok (.iload_n 2, 1) := by decide +kernel
theorem dX0_shape_11 : decode cX0_shape 11 = .ok (.iconst 2, 1) := by decide +kernel
theorem dX0_shape_12 : decode cX0_shape 12 = .ok (.bipush 6, 2) := by decide +kernel
theorem dX0_shape_14 : decode cX0_shape 14 = .ok (.invokestatic 32, 3) := by decide +kernel
theorem dX0_shape_17 : decode cX0_shape 17 = .ok (.ifCond .ne 5, 3) := by decide +kernel
theorem dX0_shape_20 : decode cX0_shape 20 = .ok (.iconst 0, 1) := by decide +kernel
theorem dX0_shape_21 : decode cX0_shape 21 = .ok (.ireturn, 1) := by decide +kernel
theorem dX0_shape_22 : decode cX0_shape 22 = .ok (.aload_n 0, 1) := by decide +kernel
theorem dX0_shape_23 : decode cX0_shape 23 = .ok (.iload_n 1, 1) := by decide +kernel
theorem dX0_shape_24 : decode cX0_shape 24 = .ok (.putfield 9, 3) := by decide +kernel
theorem dX0_shape_27 : decode cX0_shape 27 = .ok (.aload_n 0, 1) := by decide +kernel
theorem dX0_shape_28 : decode cX0_shape 28 = .ok (.iload_n 2, 1) := by decide +kernel
theorem dX0_shape_29 : decode cX0_shape 29 = .ok (.putfield 15, 3) := by decide +kernel
theorem dX0_shape_32 : decode cX0_shape 32 = .ok (.aload_n 0, 1) := by decide +kernel
theorem dX0_shape_33 : decode cX0_shape 33 = .ok (.aload_n 0, 1) := by decide +kernel
theorem dX0_shape_34 : decode cX0_shape 34 = .ok (.getfield 9, 3) := by decide +kernel
theorem dX0_shape_37 : decode cX0_shape 37 = .ok (.aload_n 0, 1) := by decide +kernel
theorem dX0_shape_38 : decode cX0_shape 38 = .ok (.getfield 15, 3) := by decide +kernel
theorem dX0_shape_41 : decode cX0_shape 41 = .ok (.imul, 1) := by decide +kernel
theorem dX0_shape_42 : decode cX0_shape 42 = .ok (.putfield 18, 3) := by decide +kernel
theorem dX0_shape_45 : decode cX0_shape 45 = .ok (.iconst 1, 1) := by decide +kernel
theorem dX0_shape_46 : decode cX0_shape 46 = .ok (.ireturn, 1) := by decide +kernel
theorem dX0_makeOpen_0 : decode cX0_makeOpen 0 = .ok (.aload_n 0, 1) := by decide +kernel
theorem dX0_makeOpen_1 : decode cX0_makeOpen 1 = .ok (.iconst 4, 1) := by decide +kernel
theorem dX0_makeOpen_2 : decode cX0_makeOpen 2 = .ok (.iconst 5, 1) := by decide +kernel
theorem dX0_makeOpen_3 : decode cX0_makeOpen 3 = .ok (.invokevirtual 36, 3) := by decide +kernel
theorem dX0_makeOpen_6 : decode cX0_makeOpen 6 = .ok (.pop, 1) := by decide +kernel
theorem dX0_makeOpen_7 : decode cX0_makeOpen 7 = .ok (.aload_n 0, 1) := by decide +kernel
theorem dX0_makeOpen_8 : decode cX0_makeOpen 8 = .ok (.getfield 21, 3) := by decide +kernel
theorem dX0_makeOpen_11 : decode cX0_makeOpen 11 = .ok (.iconst 0, 1) := by decide +kernel
theorem dX0_makeOpen_12 : decode cX0_makeOpen 12 = .ok (.invokestatic 40, 3) := by decide +kernel
theorem dX0_makeOpen_15 : decode cX0_makeOpen 15 = .ok (.return_, 1) := by decide +kernel
theorem dX0_makeKerb_0 : decode cX0_makeKerb 0 = .ok (.aload_n 0, 1) := by decide +kernel
theorem dX0_makeKerb_1 : decode cX0_makeKerb 1 = .ok (.iload_n 1, 1) := by decide +kernel
theorem dX0_makeKerb_2 : decode cX0_makeKerb 2 = .ok (.invokevirtual 46, 3) := by decide +kernel
theorem dX0_makeKerb_5 : decode cX0_makeKerb 5 = .ok (.ifCond .eq 14, 3) := by decide +kernel
theorem dX0_makeKerb_8 : decode cX0_makeKerb 8 = .ok (.aload_n 0, 1) := by decide +kernel
theorem dX0_makeKerb_9 : decode cX0_makeKerb 9 = .ok (.getfield 21, 3) := by decide +kernel
theorem dX0_makeKerb_12 : decode cX0_makeKerb 12 = .ok (.iload_n 1, 1) := by decide +kernel
theorem dX0_makeKerb_13 : decode cX0_makeKerb 13 = .ok (.iconst 3, 1) := by decide +kernel
theorem dX0_makeKerb_14 : decode cX0_makeKerb 14 = .ok (.iastore, 1) := by decide +kernel
theorem dX0_makeKerb_15 : decode cX0_makeKerb 15 = .ok (.aload_n 0, 1) := by decide +kernel
theorem dX0_makeKerb_16 : decode cX0_makeKerb 16 = .ok (.invokevirtual 50, 3) := by decide +kernel
theorem dX0_makeKerb_19 : decode cX0_makeKerb 19 = .ok (.return_, 1) := by decide +kernel
theorem dX0_copyFrom_0 : decode cX0_copyFrom 0 = .ok (.aload_n 0, 1) := by decide +kernel
theorem dX0_copyFrom_1 : decode cX0_copyFrom 1 = .ok (.aload_n 1, 1) := by decide +kernel
theorem dX0_copyFrom_2 : decode cX0_copyFrom 2 = .ok (.getfield 9, 3) := by decide +kernel
theorem dX0_copyFrom_5 : decode cX0_copyFrom 5 = .ok (.putfield 9, 3) := by decide +kernel
theorem dX0_copyFrom_8 : decode cX0_copyFrom 8 = .ok (.aload_n 0, 1) := by decide +kernel
theorem dX0_copyFrom_9 : decode cX0_copyFrom 9 = .ok (.aload_n 1, 1) := by decide +kernel
theorem dX0_copyFrom_10 : decode cX0_copyFrom 10 = .ok (.getfield 15, 3) := by decide +kernel
theorem dX0_copyFrom_13 : decode cX0_copyFrom 13 = .ok (.putfield 15, 3) := by decide +kernel
theorem dX0_copyFrom_16 : decode cX0_copyFrom 16 = .ok (.aload_n 0, 1) := by decide +kernel
theorem dX0_copyFrom_17 : decode cX0_copyFrom 17 = .ok (.aload_n 1, 1) := by decide +kernel
theorem dX0_copyFrom_18 : decode cX0_copyFrom 18 = .ok (.getfield 18, 3) := by decide +kernel
theorem dX0_copyFrom_21 : decode cX0_copyFrom 21 = .ok (.putfield 18, 3) := by decide +kernel
theorem dX0_copyFrom_24 : decode cX0_copyFrom 24 = .ok (.aload_n 1, 1) := by decide +kernel
theorem dX0_copyFrom_25 : decode cX0_copyFrom 25 = .ok (.getfield 21, 3) := by decide +kernel
theorem dX0_copyFrom_28 : decode cX0_copyFrom 28 = .ok (.iconst 0, 1) := by decide +kernel
theorem dX0_copyFrom_29 : decode cX0_copyFrom 29 = .ok (.aload_n 0, 1) := by decide +kernel
theorem dX0_copyFrom_30 : decode cX0_copyFrom 30 = .ok (.getfield 21, 3) := by decide +kernel
theorem dX0_copyFrom_33 : decode cX0_copyFrom 33 = .ok (.iconst 0, 1) := by decide +kernel
theorem dX0_copyFrom_34 : decode cX0_copyFrom 34 = .ok (.bipush 36, 2) := by decide +kernel
theorem dX0_copyFrom_36 : decode cX0_copyFrom 36 = .ok (.invokestatic 53, 3) := by decide +kernel
theorem dX0_copyFrom_39 : decode cX0_copyFrom 39 = .ok (.aload_n 1, 1) := by decide +kernel
theorem dX0_copyFrom_40 : decode cX0_copyFrom 40 = .ok (.getfield 25, 3) := by decide +kernel
theorem dX0_copyFrom_43 : decode cX0_copyFrom 43 = .ok (.iconst 0, 1) := by decide +kernel
theorem dX0_copyFrom_44 : decode cX0_copyFrom 44 = .ok (.aload_n 0, 1) := by decide +kernel
theorem dX0_copyFrom_45 : decode cX0_copyFrom 45 = .ok (.getfield 25, 3) := by decide +kernel
theorem dX0_copyFrom_48 : decode cX0_copyFrom 48 = .ok (.iconst 0, 1) := by decide +kernel
theorem dX0_copyFrom_49 : decode cX0_copyFrom 49 = .ok (.sipush 144, 3) := by decide +kernel
theorem dX0_copyFrom_52 : decode cX0_copyFrom 52 = .ok (.invokestatic 53, 3) := by decide +kernel
theorem dX0_copyFrom_55 : decode cX0_copyFrom 55 = .ok (.aload_n 1, 1) := by decide +kernel
theorem dX0_copyFrom_56 : decode cX0_copyFrom 56 = .ok (.getfield 28, 3) := by decide +kernel
theorem dX0_copyFrom_59 : decode cX0_copyFrom 59 = .ok (.iconst 0, 1) := by decide +kernel
theorem dX0_copyFrom_60 : decode cX0_copyFrom 60 = .ok (.aload_n 0, 1) := by decide +kernel
theorem dX0_copyFrom_61 : decode cX0_copyFrom 61 = .ok (.getfield 28, 3) := by decide +kernel
theorem dX0_copyFrom_64 : decode cX0_copyFrom 64 = .ok (.iconst 0, 1) := by decide +kernel
theorem dX0_copyFrom_65 : decode cX0_copyFrom 65 = .ok (.bipush 36, 2) := by decide +kernel
theorem dX0_copyFrom_67 : decode cX0_copyFrom 67 = .ok (.invokestatic 53, 3) := by decide +kernel
theorem dX0_copyFrom_70 : decode cX0_copyFrom 70 = .ok (.return_, 1) := by decide +kernel
theorem dX0_link_0 : decode cX0_link 0 = .ok (.aload_n 0, 1) := by decide +kernel
theorem dX0_link_1 : decode cX0_link 1 = .ok (.getfield 28, 3) := by decide +kernel
theorem dX0_link_4 : decode cX0_link 4 = .ok (.lconst 0, 1) := by decide +kernel
theorem dX0_link_5 : decode cX0_link 5 = .ok (.invokestatic 59, 3) := by decide +kernel
theorem dX0_link_8 : decode cX0_link 8 = .ok (.iconst 0, 1) := by decide +kernel
theorem dX0_link_9 : decode cX0_link 9 = .ok (.istore_n 1, 1) := by decide +kernel
theorem dX0_link_10 : decode cX0_link 10 = .ok (.iload_n 1, 1) := by decide +kernel
theorem dX0_link_11 : decode cX0_link 11 = .ok (.aload_n 0, 1) := by decide +kernel
theorem dX0_link_12 : decode cX0_link 12 = .ok (.getfield 9, 3) := by decide +kernel
theorem dX0_link_15 : decode cX0_link 15 = .ok (.if_icmp .ge 86, 3) := by decide +kernel
theorem dX0_link_18 : decode cX0_link 18 = .ok (.iload_n 1, 1) := by decide +kernel
theorem dX0_link_19 : decode cX0_link 19 = .ok (.bipush 6, 2) := by decide +kernel
theorem dX0_link_21 : decode cX0_link 21 = .ok (.if_icmp .ge 80, 3) := by decide +kernel
theorem dX0_link_24 : decode cX0_link 24 = .ok (.iconst 0, 1) := by decide +kernel
theorem dX0_link_25 : decode cX0_link 25 = .ok (.istore_n 2, 1) := by decide +kernel
theorem dX0_link_26 : decode cX0_link 26 = .ok (.iload_n 2, 1) := by decide +kernel
theorem dX0_link_27 : decode cX0_link 27 = .ok (.aload_n 0, 1) := by decide +kernel
theorem dX0_link_28 : decode cX0_link 28 = .ok (.getfield 15, 3) := by decide +kernel
theorem dX0_link_31 : decode cX0_link 31 = .ok (.if_icmp .ge 64, 3) := by decide +kernel
theorem dX0_link_34 : decode cX0_link 34 = .ok (.iload_n 2, 1) := by decide +kernel
theorem dX0_link_35 : decode cX0_link 35 = .ok (.bipush 6, 2) := by decide +kernel
theorem dX0_link_37 : decode cX0_link 37 = .ok (.if_icmp .ge 58, 3) := by decide +kernel
theorem dX0_link_40 : decode cX0_link 40 = .ok (.iload_n 1, 1) := by decide +kernel
theorem dX0_link_41 : decode cX0_link 41 = .ok (.aload_n 0, 1) := by decide +kernel
theorem dX0_link_42 : decode cX0_link 42 = .ok (.getfield 15, 3) := by decide +kernel
theorem dX0_link_45 : decode cX0_link 45 = .ok (.imul, 1) := by decide +kernel
theorem dX0_link_46 : decode cX0_link 46 = .ok (.iload_n 2, 1) := by decide +kernel
theorem dX0_link_47 : decode cX0_link 47 = .ok (.iadd, 1) := by decide +kernel
theorem dX0_link_48 : decode cX0_link 48 = .ok (.istore_n 3, 1) := by decide +kernel
theorem dX0_link_49 : decode cX0_link 49 = .ok (.aload_n 0, 1) := by decide +kernel
theorem dX0_link_50 : decode cX0_link 50 = .ok (.iload_n 3, 1) := by decide +kernel
theorem dX0_link_51 : decode cX0_link 51 = .ok (.iconst 0, 1) := by decide +kernel
theorem dX0_link_52 : decode cX0_link 52 = .ok (.iload_n 1, 1) := by decide +kernel
theorem dX0_link_53 : decode cX0_link 53 = .ok (.iconst 1, 1) := by decide +kernel
theorem dX0_link_54 : decode cX0_link 54 = .ok (.isub, 1) := by decide +kernel
theorem dX0_link_55 : decode cX0_link 55 = .ok (.iload_n 2, 1) := by decide +kernel
theorem dX0_link_56 : decode cX0_link 56 = .ok (.invokevirtual 62, 3) := by decide +kernel
theorem dX0_link_59 : decode cX0_link 59 = .ok (.aload_n 0, 1) := by decide +kernel
theorem dX0_link_60 : decode cX0_link 60 = .ok (.iload_n 3, 1) := by decide +kernel
theorem dX0_link_61 : decode cX0_link 61 = .ok (.iconst 1, 1) := by decide +kernel
theorem dX0_link_62 : decode cX0_link 62 = .ok (.iload_n 1, 1) := by decide +kernel
theorem dX0_link_63 : decode cX0_link 63 = .ok (.iconst 1, 1) := by decide +kernel
theorem dX0_link_64 : decode cX0_link 64 = .ok (.iadd, 1) := by decide +kernel
theorem dX0_link_65 : decode cX0_link 65 = .ok (.iload_n 2, 1) := by decide +kernel
theorem dX0_link_66 : decode cX0_link 66 = .ok (.invokevirtual 62, 3) := by decide +kernel
theorem dX0_link_69 : decode cX0_link 69 = .ok (.aload_n 0, 1) := by decide +kernel
theorem dX0_link_70 : decode cX0_link 70 = .ok (.iload_n 3, 1) := by decide +kernel
theorem dX0_link_71 : decode cX0_link 71 = .ok (.iconst 2, 1) := by decide +kernel
theorem dX0_link_72 : decode cX0_link 72 = .ok (.iload_n 1, 1) := by decide +kernel
theorem dX0_link_73 : decode cX0_link 73 = .ok (.iload_n 2, 1) := by decide +kernel
theorem dX0_link_74 : decode cX0_link 74 = .ok (.iconst 1, 1) := by decide +kernel
theorem dX0_link_75 : decode cX0_link 75 = .ok (.iadd, 1) := by decide +kernel
theorem dX0_link_76 : decode cX0_link 76 = .ok (.invokevirtual 62, 3) := by decide +kernel
theorem dX0_link_79 : decode cX0_link 79 = .ok (.aload_n 0, 1) := by decide +kernel
theorem dX0_link_80 : decode cX0_link 80 = .ok (.iload_n 3, 1) := by decide +kernel
theorem dX0_link_81 : decode cX0_link 81 = .ok (.iconst 3, 1) := by decide +kernel
theorem dX0_link_82 : decode cX0_link 82 = .ok (.iload_n 1, 1) := by decide +kernel
theorem dX0_link_83 : decode cX0_link 83 = .ok (.iload_n 2, 1) := by decide +kernel
theorem dX0_link_84 : decode cX0_link 84 = .ok (.iconst 1, 1) := by decide +kernel
theorem dX0_link_85 : decode cX0_link 85 = .ok (.isub, 1) := by decide +kernel
theorem dX0_link_86 : decode cX0_link 86 = .ok (.invokevirtual 62, 3) := by decide +kernel
theorem dX0_link_89 : decode cX0_link 89 = .ok (.iinc 2 1, 3) := by decide +kernel
theorem dX0_link_92 : decode cX0_link 92 = .ok (.goto (-66), 3) := by decide +kernel
theorem dX0_link_95 : decode cX0_link 95 = .ok (.iinc 1 1, 3) := by decide +kernel
theorem dX0_link_98 : decode cX0_link 98 = .ok (.goto (-88), 3) := by decide +kernel
theorem dX0_link_101 : decode cX0_link 101 = .ok (.return_, 1) := by decide +kernel
theorem dX0_linkSide_0 : decode cX0_linkSide 0 = .ok (.iload_n 1, 1) := by decide +kernel
theorem dX0_linkSide_1 : decode cX0_linkSide 1 = .ok (.iconst 4, 1) := by decide +kernel
theorem dX0_linkSide_2 : decode cX0_linkSide 2 = .ok (.imul, 1) := by decide +kernel
theorem dX0_linkSide_3 : decode cX0_linkSide 3 = .ok (.iload_n 2, 1) := by decide +kernel
theorem dX0_linkSide_4 : decode cX0_linkSide 4 = .ok (.iadd, 1) := by decide +kernel
theorem dX0_linkSide_5 : decode cX0_linkSide 5 = .ok (.istore 5, 2) := by decide +kernel
theorem dX0_linkSide_7 : decode cX0_linkSide 7 = .ok (.aload_n 0, 1) := by decide +kernel
theorem dX0_linkSide_8 : decode cX0_linkSide 8 = .ok (.iload_n 1, 1) := by decide +kernel
theorem dX0_linkSide_9 : decode cX0_linkSide 9 = .ok (.invokevirtual 46, 3) := by decide +kernel
theorem dX0_linkSide_12 : decode cX0_linkSide 12 = .ok (.ifCond .eq 18, 3) := by decide +kernel
theorem dX0_linkSide_15 : decode cX0_linkSide 15 = .ok (.iload 5, 2) := by decide +kernel
theorem dX0_linkSide_17 : decode cX0_linkSide 17 = .ok (.ifCond .lt 13, 3) := by decide +kernel
theorem dX0_linkSide_20 : decode cX0_linkSide 20 = .ok (.iload 5, 2) := by decide +kernel
theorem dX0_linkSide_22 : decode cX0_linkSide 22 = .ok (.aload_n 0, 1) := by decide +kernel
theorem dX0_linkSide_23 : decode cX0_linkSide 23 = .ok (.getfield 25, 3) := by decide +kernel
theorem dX0_linkSide_26 : decode cX0_linkSide 26 = .ok (.arraylength, 1) := by decide +kernel
theorem dX0_linkSide_27 : decode cX0_linkSide 27 = .ok (.if_icmp .lt 4, 3) := by decide +kernel
theorem dX0_linkSide_30 : decode cX0_linkSide 30 = .ok (.return_, 1) := by decide +kernel
theorem dX0_linkSide_31 : decode cX0_linkSide 31 = .ok (.aload_n 0, 1) := by decide +kernel
theorem dX0_linkSide_32 : decode cX0_linkSide 32 = .ok (.getfield 25, 3) := by decide +kernel
theorem dX0_linkSide_35 : decode cX0_linkSide 35 = .ok (.iload 5, 2) := by decide +kernel
theorem dX0_linkSide_37 : decode cX0_linkSide 37 = .ok (.aload_n 0, 1) := by decide +kernel
theorem dX0_linkSide_38 : decode cX0_linkSide 38 = .ok (.iload_n 3, 1) := by decide +kernel
theorem dX0_linkSide_39 : decode cX0_linkSide 39 = .ok (.iload 4, 2) := by decide +kernel
theorem dX0_linkSide_41 : decode cX0_linkSide 41 = .ok (.invokevirtual 66, 3) := by decide +kernel
theorem dX0_linkSide_44 : decode cX0_linkSide 44 = .ok (.iastore, 1) := by decide +kernel
theorem dX0_linkSide_45 : decode cX0_linkSide 45 = .ok (.aload_n 0, 1) := by decide +kernel
theorem dX0_linkSide_46 : decode cX0_linkSide 46 = .ok (.getfield 25, 3) := by decide +kernel
theorem dX0_linkSide_49 : decode cX0_linkSide 49 = .ok (.iload 5, 2) := by decide +kernel
theorem dX0_linkSide_51 : decode cX0_linkSide 51 = .ok (.iaload, 1) := by decide +kernel
theorem dX0_linkSide_52 : decode cX0_linkSide 52 = .ok (.bipush (-4), 2) := by decide +kernel
theorem dX0_linkSide_54 : decode cX0_linkSide 54 = .ok (.if_icmp .eq 21, 3) := by decide +kernel
theorem dX0_linkSide_57 : decode cX0_linkSide 57 = .ok (.aload_n 0, 1) := by decide +kernel
theorem dX0_linkSide_58 : decode cX0_linkSide 58 = .ok (.getfield 28, 3) := by decide +kernel
theorem dX0_linkSide_61 : decode cX0_linkSide 61 = .ok (.iload_n 1, 1) := by decide +kernel
theorem dX0_linkSide_62 : decode cX0_linkSide 62 = .ok (.dup2, 1) := by decide +kernel
theorem dX0_linkSide_63 : decode cX0_linkSide 63 = .ok (.laload, 1) := by decide +kernel
theorem dX0_linkSide_64 : decode cX0_linkSide 64 = .ok (.lconst 1, 1) := by decide +kernel
theorem dX0_linkSide_65 : decode cX0_linkSide 65 = .ok (.aload_n 0, 1) := by decide +kernel
theorem dX0_linkSide_66 : decode cX0_linkSide 66 = .ok (.getfield 25, 3) := by decide +kernel
theorem dX0_linkSide_69 : decode cX0_linkSide 69 = .ok (.iload 5, 2) := by decide +kernel
theorem dX0_linkSide_71 : decode cX0_linkSide 71 = .ok (.iaload, 1) := by decide +kernel
theorem dX0_linkSide_72 : decode cX0_linkSide 72 = .ok (.lshl, 1) := by decide +kernel
theorem dX0_linkSide_73 : decode cX0_linkSide 73 = .ok (.lor, 1) := by decide +kernel
theorem dX0_linkSide_74 : decode cX0_linkSide 74 = .ok (.lastore, 1) := by decide +kernel
theorem dX0_linkSide_75 : decode cX0_linkSide 75 = .ok (.return_, 1) := by decide +kernel
theorem dX0_walkable_0 : decode cX0_walkable 0 = .ok (.iload_n 1, 1) := by decide +kernel
theorem dX0_walkable_1 : decode cX0_walkable 1 = .ok (.ifCond .lt 23, 3) := by decide +kernel
theorem dX0_walkable_4 : decode cX0_walkable 4 = .ok (.iload_n 1, 1) := by decide +kernel
theorem dX0_walkable_5 : decode cX0_walkable 5 = .ok (.aload_n 0, 1) := by decide +kernel
theorem dX0_walkable_6 : decode cX0_walkable 6 = .ok (.getfield 9, 3) := by decide +kernel
theorem dX0_walkable_9 : decode cX0_walkable 9 = .ok (.if_icmp .ge 15, 3) := by decide +kernel
theorem dX0_walkable_12 : decode cX0_walkable 12 = .ok (.iload_n 2, 1) := by decide +kernel
theorem dX0_walkable_13 : decode cX0_walkable 13 = .ok (.ifCond .lt 11, 3) := by decide +kernel
theorem dX0_walkable_16 : decode cX0_walkable 16 = .ok (.iload_n 2, 1) := by decide +kernel
theorem dX0_walkable_17 : decode cX0_walkable 17 = .ok (.aload_n 0, 1) := by decide +kernel
theorem dX0_walkable_18 : decode cX0_walkable 18 = .ok (.getfield 15, 3) := by decide +kernel
theorem dX0_walkable_21 : decode cX0_walkable 21 = .ok (.if_icmp .lt 6, 3) := by decide +kernel
theorem dX0_walkable_24 : decode cX0_walkable 24 = .ok (.bipush (-4), 2) := by decide +kernel
theorem dX0_walkable_26 : decode cX0_walkable 26 = .ok (.ireturn, 1) := by decide +kernel
theorem dX0_walkable_27 : decode cX0_walkable 27 = .ok (.iload_n 1, 1) := by decide +kernel
theorem dX0_walkable_28 : decode cX0_walkable 28 = .ok (.aload_n 0, 1) := by decide +kernel
theorem dX0_walkable_29 : decode cX0_walkable 29 = .ok (.getfield 15, 3) := by decide +kernel
theorem dX0_walkable_32 : decode cX0_walkable 32 = .ok (.imul, 1) := by decide +kernel
theorem dX0_walkable_33 : decode cX0_walkable 33 = .ok (.iload_n 2, 1) := by decide +kernel
theorem dX0_walkable_34 : decode cX0_walkable 34 = .ok (.iadd, 1) := by decide +kernel
theorem dX0_walkable_35 : decode cX0_walkable 35 = .ok (.istore_n 3, 1) := by decide +kernel
theorem dX0_walkable_36 : decode cX0_walkable 36 = .ok (.aload_n 0, 1) := by decide +kernel
theorem dX0_walkable_37 : decode cX0_walkable 37 = .ok (.iload_n 3, 1) := by decide +kernel
theorem dX0_walkable_38 : decode cX0_walkable 38 = .ok (.invokevirtual 46, 3) := by decide +kernel
theorem dX0_walkable_41 : decode cX0_walkable 41 = .ok (.ifCond .eq 17, 3) := by decide +kernel
theorem dX0_walkable_44 : decode cX0_walkable 44 = .ok (.aload_n 0, 1) := by decide +kernel
theorem dX0_walkable_45 : decode cX0_walkable 45 = .ok (.getfield 21, 3) := by decide +kernel
theorem dX0_walkable_48 : decode cX0_walkable 48 = .ok (.iload_n 3, 1) := by decide +kernel
theorem dX0_walkable_49 : decode cX0_walkable 49 = .ok (.iaload, 1) := by decide +kernel
theorem dX0_walkable_50 : decode cX0_walkable 50 = .ok (.iconst 3, 1) := by decide +kernel
theorem dX0_walkable_51 : decode cX0_walkable 51 = .ok (.if_icmp .eq 7, 3) := by decide +kernel
theorem dX0_walkable_54 : decode cX0_walkable 54 = .ok (.iload_n 3, 1) := by decide +kernel
theorem dX0_walkable_55 : decode cX0_walkable 55 = .ok (.goto 5, 3) := by decide +kernel
theorem dX0_walkable_58 : decode cX0_walkable 58 = .ok (.bipush (-4), 2) := by decide +kernel
theorem dX0_walkable_60 : decode cX0_walkable 60 = .ok (.ireturn, 1) := by decide +kernel
theorem dX0_cellBeside_0 : decode cX0_cellBeside 0 = .ok (.iload_n 1, 1) := by decide +kernel
theorem dX0_cellBeside_1 : decode cX0_cellBeside 1 = .ok (.iconst 4, 1) := by decide +kernel
theorem dX0_cellBeside_2 : decode cX0_cellBeside 2 = .ok (.imul, 1) := by decide +kernel
theorem dX0_cellBeside_3 : decode cX0_cellBeside 3 = .ok (.iload_n 2, 1) := by decide +kernel
theorem dX0_cellBeside_4 : decode cX0_cellBeside 4 = .ok (.iadd, 1) := by decide +kernel
theorem dX0_cellBeside_5 : decode cX0_cellBeside 5 = .ok (.istore_n 3, 1) := by decide +kernel
theorem dX0_cellBeside_6 : decode cX0_cellBeside 6 = .ok (.iload_n 3, 1) := by decide +kernel
theorem dX0_cellBeside_7 : decode cX0_cellBeside 7 = .ok (.ifCond .lt 21, 3) := by decide +kernel
theorem dX0_cellBeside_10 : decode cX0_cellBeside 10 = .ok (.iload_n 3, 1) := by decide +kernel
theorem dX0_cellBeside_11 : decode cX0_cellBeside 11 = .ok (.aload_n 0, 1) := by decide +kernel
theorem dX0_cellBeside_12 : decode cX0_cellBeside 12 = .ok (.getfield 25, 3) := by decide +kernel
theorem dX0_cellBeside_15 : decode cX0_cellBeside 15 = .ok (.arraylength, 1) := by decide +kernel
theorem dX0_cellBeside_16 : decode cX0_cellBeside 16 = .ok (.if_icmp .ge 12, 3) := by decide +kernel
theorem dX0_cellBeside_19 : decode cX0_cellBeside 19 = .ok (.aload_n 0, 1) := by decide +kernel
theorem dX0_cellBeside_20 : decode cX0_cellBeside 20 = .ok (.getfield 25, 3) := by decide +kernel
theorem dX0_cellBeside_23 : decode cX0_cellBeside 23 = .ok (.iload_n 3, 1) := by decide +kernel
theorem dX0_cellBeside_24 : decode cX0_cellBeside 24 = .ok (.iaload, 1) := by decide +kernel
theorem dX0_cellBeside_25 : decode cX0_cellBeside 25 = .ok (.goto 5, 3) := by decide +kernel
theorem dX0_cellBeside_28 : decode cX0_cellBeside 28 = .ok (.bipush (-4), 2) := by decide +kernel
theorem dX0_cellBeside_30 : decode cX0_cellBeside 30 = .ok (.ireturn, 1) := by decide +kernel
theorem dX0_bitsBeside_0 : decode cX0_bitsBeside 0 = .ok (.aload_n 0, 1) := by decide +kernel
theorem dX0_bitsBeside_1 : decode cX0_bitsBeside 1 = .ok (.iload_n 1, 1) := by decide +kernel
theorem dX0_bitsBeside_2 : decode cX0_bitsBeside 2 = .ok (.invokevirtual 46, 3) := by decide +kernel
theorem dX0_bitsBeside_5 : decode cX0_bitsBeside 5 = .ok (.ifCond .eq 12, 3) := by decide +kernel
theorem dX0_bitsBeside_8 : decode cX0_bitsBeside 8 = .ok (.aload_n 0, 1) := by decide +kernel
theorem dX0_bitsBeside_9 : decode cX0_bitsBeside 9 = .ok (.getfield 28, 3) := by decide +kernel
theorem dX0_bitsBeside_12 : decode cX0_bitsBeside 12 = .ok (.iload_n 1, 1) := by decide +kernel
theorem dX0_bitsBeside_13 : decode cX0_bitsBeside 13 = .ok (.laload, 1) := by decide +kernel
theorem dX0_bitsBeside_14 : decode cX0_bitsBeside 14 = .ok (.goto 4, 3) := by decide +kernel
theorem dX0_bitsBeside_17 : decode cX0_bitsBeside 17 = .ok (.lconst 0, 1) := by decide +kernel
theorem dX0_bitsBeside_18 : decode cX0_bitsBeside 18 = .ok (.lreturn, 1) := by decide +kernel
theorem dX0_withBeside_0 : decode cX0_withBeside 0 = .ok (.lload_n 1, 1) := by decide +kernel
theorem dX0_withBeside_1 : decode cX0_withBeside 1 = .ok (.lstore_n 3, 1) := by decide +kernel
theorem dX0_withBeside_2 : decode cX0_withBeside 2 = .ok (.iconst 0, 1) := by decide +kernel
theorem dX0_withBeside_3 : decode cX0_withBeside 3 = .ok (.istore 5, 2) := by decide +kernel
theorem dX0_withBeside_5 : decode cX0_withBeside 5 = .ok (.iload 5, 2) := by decide +kernel
theorem dX0_withBeside_7 : decode cX0_withBeside 7 = .ok (.aload_n 0, 1) := by decide +kernel
theorem dX0_withBeside_8 : decode cX0_withBeside 8 = .ok (.getfield 18, 3) := by decide +kernel
theorem dX0_withBeside_11 : decode cX0_withBeside 11 = .ok (.if_icmp .ge 37, 3) := by decide +kernel
theorem dX0_withBeside_14 : decode cX0_withBeside 14 = .ok (.iload 5, 2) := by decide +kernel
theorem dX0_withBeside_16 : decode cX0_withBeside 16 = .ok (.bipush 36, 2) := by decide +kernel
theorem dX0_withBeside_18 : decode cX0_withBeside 18 = .ok (.if_icmp .ge 30, 3) := by decide +kernel
theorem dX0_withBeside_21 : decode cX0_withBeside 21 = .ok (.lload_n 1, 1) := by decide +kernel
theorem dX0_withBeside_22 : decode cX0_withBeside 22 = .ok (.iload 5, 2) := by decide +kernel
theorem dX0_withBeside_24 : decode cX0_withBeside 24 = .ok (.lshr, 1) := by decide +kernel
theorem dX0_withBeside_25 : decode cX0_withBeside 25 = .ok (.lconst 1, 1) := by decide +kernel
theorem dX0_withBeside_26 : decode cX0_withBeside 26 = .ok (.land, 1) := by decide +kernel
theorem dX0_withBeside_27 : decode cX0_withBeside 27 = .ok (.lconst 1, 1) := by decide +kernel
theorem dX0_withBeside_28 : decode cX0_withBeside 28 = .ok (.lcmp, 1) := by decide +kernel
theorem dX0_withBeside_29 : decode cX0_withBeside 29 = .ok (.ifCond .ne 13, 3) := by decide +kernel
theorem dX0_withBeside_32 : decode cX0_withBeside 32 = .ok (.lload_n 3, 1) := by decide +kernel
theorem dX0_withBeside_33 : decode cX0_withBeside 33 = .ok (.aload_n 0, 1) := by decide +kernel
theorem dX0_withBeside_34 : decode cX0_withBeside 34 = .ok (.getfield 28, 3) := by decide +kernel
theorem dX0_withBeside_37 : decode cX0_withBeside 37 = .ok (.iload 5, 2) := by decide +kernel
theorem dX0_withBeside_39 : decode cX0_withBeside 39 = .ok (.laload, 1) := by decide +kernel
theorem dX0_withBeside_40 : decode cX0_withBeside 40 = .ok (.lor, 1) := by decide +kernel
theorem dX0_withBeside_41 : decode cX0_withBeside 41 = .ok (.lstore_n 3, 1) := by decide +kernel
theorem dX0_withBeside_42 : decode cX0_withBeside 42 = .ok (.iinc 5 1, 3) := by decide +kernel
theorem dX0_withBeside_45 : decode cX0_withBeside 45 = .ok (.goto (-40), 3) := by decide +kernel
theorem dX0_withBeside_48 : decode cX0_withBeside 48 = .ok (.lload_n 3, 1) := by decide +kernel
theorem dX0_withBeside_49 : decode cX0_withBeside 49 = .ok (.lreturn, 1) := by decide +kernel
theorem dX0_takesRain_0 : decode cX0_takesRain 0 = .ok (.aload_n 0, 1) := by decide +kernel
theorem dX0_takesRain_1 : decode cX0_takesRain 1 = .ok (.iload_n 1, 1) := by decide +kernel
theorem dX0_takesRain_2 : decode cX0_takesRain 2 = .ok (.invokevirtual 46, 3) := by decide +kernel
theorem dX0_takesRain_5 : decode cX0_takesRain 5 = .ok (.ifCond .eq 27, 3) := by decide +kernel
theorem dX0_takesRain_8 : decode cX0_takesRain 8 = .ok (.aload_n 0, 1) := by decide +kernel
theorem dX0_takesRain_9 : decode cX0_takesRain 9 = .ok (.getfield 21, 3) := by decide +kernel
theorem dX0_takesRain_12 : decode cX0_takesRain 12 = .ok (.iload_n 1, 1) := by decide +kernel
theorem dX0_takesRain_13 : decode cX0_takesRain 13 = .ok (.iaload, 1) := by decide +kernel
theorem dX0_takesRain_14 : decode cX0_takesRain 14 = .ok (.iconst 3, 1) := by decide +kernel
theorem dX0_takesRain_15 : decode cX0_takesRain 15 = .ok (.if_icmp .eq 17, 3) := by decide +kernel
theorem dX0_takesRain_18 : decode cX0_takesRain 18 = .ok (.aload_n 0, 1) := by decide +kernel
theorem dX0_takesRain_19 : decode cX0_takesRain 19 = .ok (.getfield 21, 3) := by decide +kernel
theorem dX0_takesRain_22 : decode cX0_takesRain 22 = .ok (.iload_n 1, 1) := by decide +kernel
theorem dX0_takesRain_23 : decode cX0_takesRain 23 = .ok (.iaload, 1) := by decide +kernel
theorem dX0_takesRain_24 : decode cX0_takesRain 24 = .ok (.iconst 2, 1) := by decide +kernel
theorem dX0_takesRain_25 : decode cX0_takesRain 25 = .ok (.if_icmp .eq 7, 3) := by decide +kernel
theorem dX0_takesRain_28 : decode cX0_takesRain 28 = .ok (.iconst 1, 1) := by decide +kernel
theorem dX0_takesRain_29 : decode cX0_takesRain 29 = .ok (.goto 4, 3) := by decide +kernel
theorem dX0_takesRain_32 : decode cX0_takesRain 32 = .ok (.iconst 0, 1) := by decide +kernel
theorem dX0_takesRain_33 : decode cX0_takesRain 33 = .ok (.ireturn, 1) := by decide +kernel
theorem dX0_isKind_0 : decode cX0_isKind 0 = .ok (.aload_n 0, 1) := by decide +kernel
theorem dX0_isKind_1 : decode cX0_isKind 1 = .ok (.iload_n 1, 1) := by decide +kernel
theorem dX0_isKind_2 : decode cX0_isKind 2 = .ok (.invokevirtual 46, 3) := by decide +kernel
theorem dX0_isKind_5 : decode cX0_isKind 5 = .ok (.ifCond .eq 17, 3) := by decide +kernel
theorem dX0_isKind_8 : decode cX0_isKind 8 = .ok (.aload_n 0, 1) := by decide +kernel
theorem dX0_isKind_9 : decode cX0_isKind 9 = .ok (.getfield 21, 3) := by decide +kernel
theorem dX0_isKind_12 : decode cX0_isKind 12 = .ok (.iload_n 1, 1) := by decide +kernel
theorem dX0_isKind_13 : decode cX0_isKind 13 = .ok (.iaload, 1) := by decide +kernel
theorem dX0_isKind_14 : decode cX0_isKind 14 = .ok (.iload_n 2, 1) := by decide +kernel
theorem dX0_isKind_15 : decode cX0_isKind 15 = .ok (.if_icmp .ne 7, 3) := by decide +kernel
theorem dX0_isKind_18 : decode cX0_isKind 18 = .ok (.iconst 1, 1) := by decide +kernel
theorem dX0_isKind_19 : decode cX0_isKind 19 = .ok (.goto 4, 3) := by decide +kernel
theorem dX0_isKind_22 : decode cX0_isKind 22 = .ok (.iconst 0, 1) := by decide +kernel
theorem dX0_isKind_23 : decode cX0_isKind 23 = .ok (.ireturn, 1) := by decide +kernel
theorem dX1_init_0 : decode cX1_init 0 = .ok (.aload_n 0, 1) := by decide +kernel
theorem dX1_init_1 : decode cX1_init 1 = .ok (.invokespecial 3, 3) := by decide +kernel
theorem dX1_init_4 : decode cX1_init 4 = .ok (.aload_n 0, 1) := by decide +kernel
theorem dX1_init_5 : decode cX1_init 5 = .ok (.sipush 288, 3) := by decide +kernel
theorem dX1_init_8 : decode cX1_init 8 = .ok (.newarray .int, 2) := by decide +kernel
theorem dX1_init_10 : decode cX1_init 10 = .ok (.putfield 9, 3) := by decide +kernel
theorem dX1_init_13 : decode cX1_init 13 = .ok (.aload_n 0, 1) := by decide +kernel
theorem dX1_init_14 : decode cX1_init 14 = .ok (.sipush 288, 3) := by decide +kernel
theorem dX1_init_17 : decode cX1_init 17 = .ok (.newarray .int, 2) := by decide +kernel
theorem dX1_init_19 : decode cX1_init 19 = .ok (.putfield 15, 3) := by decide +kernel
theorem dX1_init_22 : decode cX1_init 22 = .ok (.aload_n 0, 1) := by decide +kernel
theorem dX1_init_23 : decode cX1_init 23 = .ok (.bipush 8, 2) := by decide +kernel
theorem dX1_init_25 : decode cX1_init 25 = .ok (.newarray .int, 2) := by decide +kernel
theorem dX1_init_27 : decode cX1_init 27 = .ok (.putfield 18, 3) := by decide +kernel
theorem dX1_init_30 : decode cX1_init 30 = .ok (.aload_n 0, 1) := by decide +kernel
theorem dX1_init_31 : decode cX1_init 31 = .ok (.iconst 0, 1) := by decide +kernel
theorem dX1_init_32 : decode cX1_init 32 = .ok (.putfield 21, 3) := by decide +kernel
theorem dX1_init_35 : decode cX1_init 35 = .ok (.return_, 1) := by decide +kernel
theorem dX1_push_0 : decode cX1_push 0 = .ok (.aload_n 0, 1) := by decide +kernel
theorem dX1_push_1 : decode cX1_push 1 = .ok (.getfield 21, 3) := by decide +kernel
theorem dX1_push_4 : decode cX1_push 4 = .ok (.bipush 8, 2) := by decide +kernel
theorem dX1_push_6 : decode cX1_push 6 = .ok (.if_icmp .lt 7, 3) := by decide +kernel
theorem dX1_push_9 : decode cX1_push 9 = .ok (.aload_n 0, 1) := by decide +kernel
theorem dX1_push_10 : decode cX1_push 10 = .ok (.invokevirtual 25, 3) := by decide +kernel
theorem dX1_push_13 : decode cX1_push 13 = .ok (.aload_n 0, 1) := by decide +kernel
theorem dX1_push_14 : decode cX1_push 14 = .ok (.getfield 21, 3) := by decide +kernel
theorem dX1_push_17 : decode cX1_push 17 = .ok (.ifCond .lt 77, 3) := by decide +kernel
theorem dX1_push_20 : decode cX1_push 20 = .ok (.aload_n 0, 1) := by decide +kernel
theorem dX1_push_21 : decode cX1_push 21 = .ok (.getfield 21, 3) := by decide +kernel
theorem dX1_push_24 : decode cX1_push 24 = .ok (.bipush 8, 2) := by decide +kernel
theorem dX1_push_26 : decode cX1_push 26 = .ok (.if_icmp .ge 68, 3) := by decide +kernel
theorem dX1_push_29 : decode cX1_push 29 = .ok (.aload_n 1, 1) := by decide +kernel
theorem dX1_push_30 : decode cX1_push 30 = .ok (.getfield 28, 3) := by decide +kernel
theorem dX1_push_33 : decode cX1_push 33 = .ok (.iconst 0, 1) := by decide +kernel
theorem dX1_push_34 : decode cX1_push 34 = .ok (.aload_n 0, 1) := by decide +kernel
theorem dX1_push_35 : decode cX1_push 35 = .ok (.getfield 9, 3) := by decide +kernel
theorem dX1_push_38 : decode cX1_push 38 = .ok (.aload_n 0, 1) := by decide +kernel
theorem dX1_push_39 : decode cX1_push 39 = .ok (.getfield 21, 3) := by decide +kernel
theorem dX1_push_42 : decode cX1_push 42 = .ok (.bipush 36, 2) := by decide +kernel
theorem dX1_push_44 : decode cX1_push 44 = .ok (.imul, 1) := by decide +kernel
theorem dX1_push_45 : decode cX1_push 45 = .ok (.bipush 36, 2) := by decide +kernel
theorem dX1_push_47 : decode cX1_push 47 = .ok (.invokestatic 33, 3) := by decide +kernel
theorem dX1_push_50 : decode cX1_push 50 = .ok (.aload_n 1, 1) := by decide +kernel
theorem dX1_push_51 : decode cX1_push 51 = .ok (.getfield 39, 3) := by decide +kernel
theorem dX1_push_54 : decode cX1_push 54 = .ok (.iconst 0, 1) := by decide +kernel
theorem dX1_push_55 : decode cX1_push 55 = .ok (.aload_n 0, 1) := by decide +kernel
theorem dX1_push_56 : decode cX1_push 56 = .ok (.getfield 15, 3) := by decide +kernel
theorem dX1_push_59 : decode cX1_push 59 = .ok (.aload_n 0, 1) := by decide +kernel
theorem dX1_push_60 : decode cX1_push 60 = .ok (.getfield 21, 3) := by decide +kernel
theorem dX1_push_63 : decode cX1_push 63 = .ok (.bipush 36, 2) := by decide +kernel
theorem dX1_push_65 : decode cX1_push 65 = .ok (.imul, 1) := by decide +kernel
theorem dX1_push_66 : decode cX1_push 66 = .ok (.bipush 36, 2) := by decide +kernel
theorem dX1_push_68 : decode cX1_push 68 = .ok (.invokestatic 33, 3) := by decide +kernel
theorem dX1_push_71 : decode cX1_push 71 = .ok (.aload_n 0, 1) := by decide +kernel
theorem dX1_push_72 : decode cX1_push 72 = .ok (.getfield 18, 3) := by decide +kernel
theorem dX1_push_75 : decode cX1_push 75 = .ok (.aload_n 0, 1) := by decide +kernel
theorem dX1_push_76 : decode cX1_push 76 = .ok (.getfield 21, 3) := by decide +kernel
theorem dX1_push_79 : decode cX1_push 79 = .ok (.aload_n 1, 1) := by decide +kernel
theorem dX1_push_80 : decode cX1_push 80 = .ok (.getfield 40, 3) := by decide +kernel
theorem dX1_push_83 : decode cX1_push 83 = .ok (.iastore, 1) := by decide +kernel
theorem dX1_push_84 : decode cX1_push 84 = .ok (.aload_n 0, 1) := by decide +kernel
theorem dX1_push_85 : decode cX1_push 85 = .ok (.dup, 1) := by decide +kernel
theorem dX1_push_86 : decode cX1_push 86 = .ok (.getfield 21, 3) := by decide +kernel
theorem dX1_push_89 : decode cX1_push 89 = .ok (.iconst 1, 1) := by decide +kernel
theorem dX1_push_90 : decode cX1_push 90 = .ok (.iadd, 1) := by decide +kernel
theorem dX1_push_91 : decode cX1_push 91 = .ok (.putfield 21, 3) := by decide +kernel
theorem dX1_push_94 : decode cX1_push 94 = .ok (.return_, 1) := by decide +kernel
theorem dX1_pop_0 : decode cX1_pop 0 = .ok (.aload_n 0, 1) := by decide +kernel
theorem dX1_pop_1 : decode cX1_pop 1 = .ok (.getfield 21, 3) := by decide +kernel
theorem dX1_pop_4 : decode cX1_pop 4 = .ok (.ifCond .le 77, 3) := by decide +kernel
theorem dX1_pop_7 : decode cX1_pop 7 = .ok (.aload_n 0, 1) := by decide +kernel
theorem dX1_pop_8 : decode cX1_pop 8 = .ok (.getfield 21, 3) := by decide +kernel
theorem dX1_pop_11 : decode cX1_pop 11 = .ok (.bipush 8, 2) := by decide +kernel
theorem dX1_pop_13 : decode cX1_pop 13 = .ok (.if_icmp .gt 68, 3) := by decide +kernel
theorem dX1_pop_16 : decode cX1_pop 16 = .ok (.aload_n 0, 1) := by decide +kernel
theorem dX1_pop_17 : decode cX1_pop 17 = .ok (.dup, 1) := by decide +kernel
theorem dX1_pop_18 : decode cX1_pop 18 = .ok (.getfield 21, 3) := by decide +kernel
theorem dX1_pop_21 : decode cX1_pop 21 = .ok (.iconst 1, 1) := by decide +kernel
theorem dX1_pop_22 : decode cX1_pop 22 = .ok (.isub, 1) := by decide +kernel
theorem dX1_pop_23 : decode cX1_pop 23 = .ok (.putfield 21, 3) := by decide +kernel
theorem dX1_pop_26 : decode cX1_pop 26 = .ok (.aload_n 0, 1) := by decide +kernel
theorem dX1_pop_27 : decode cX1_pop 27 = .ok (.getfield 9, 3) := by decide +kernel
theorem dX1_pop_30 : decode cX1_pop 30 = .ok (.aload_n 0, 1) := by decide +kernel
theorem dX1_pop_31 : decode cX1_pop 31 = .ok (.getfield 21, 3) := by decide +kernel
theorem dX1_pop_34 : decode cX1_pop 34 = .ok (.bipush 36, 2) := by decide +kernel
theorem dX1_pop_36 : decode cX1_pop 36 = .ok (.imul, 1) := by decide +kernel
theorem dX1_pop_37 : decode cX1_pop 37 = .ok (.aload_n 1, 1) := by decide +kernel
theorem dX1_pop_38 : decode cX1_pop 38 = .ok (.getfield 28, 3) := by decide +kernel
theorem dX1_pop_41 : decode cX1_pop 41 = .ok (.iconst 0, 1) := by decide +kernel
theorem dX1_pop_42 : decode cX1_pop 42 = .ok (.bipush 36, 2) := by decide +kernel
theorem dX1_pop_44 : decode cX1_pop 44 = .ok (.invokestatic 33, 3) := by decide +kernel
theorem dX1_pop_47 : decode cX1_pop 47 = .ok (.aload_n 0, 1) := by decide +kernel
theorem dX1_pop_48 : decode cX1_pop 48 = .ok (.getfield 15, 3) := by decide +kernel
theorem dX1_pop_51 : decode cX1_pop 51 = .ok (.aload_n 0, 1) := by decide +kernel
theorem dX1_pop_52 : decode cX1_pop 52 = .ok (.getfield 21, 3) := by decide +kernel
theorem dX1_pop_55 : decode cX1_pop 55 = .ok (.bipush 36, 2) := by decide +kernel
theorem dX1_pop_57 : decode cX1_pop 57 = .ok (.imul, 1) := by decide +kernel
theorem dX1_pop_58 : decode cX1_pop 58 = .ok (.aload_n 1, 1) := by decide +kernel
theorem dX1_pop_59 : decode cX1_pop 59 = .ok (.getfield 39, 3) := by decide +kernel
theorem dX1_pop_62 : decode cX1_pop 62 = .ok (.iconst 0, 1) := by decide +kernel
theorem dX1_pop_63 : decode cX1_pop 63 = .ok (.bipush 36, 2) := by decide +kernel
theorem dX1_pop_65 : decode cX1_pop 65 = .ok (.invokestatic 33, 3) := by decide +kernel
theorem dX1_pop_68 : decode cX1_pop 68 = .ok (.aload_n 1, 1) := by decide +kernel
theorem dX1_pop_69 : decode cX1_pop 69 = .ok (.aload_n 0, 1) := by decide +kernel
theorem dX1_pop_70 : decode cX1_pop 70 = .ok (.getfield 18, 3) := by decide +kernel
theorem dX1_pop_73 : decode cX1_pop 73 = .ok (.aload_n 0, 1) := by decide +kernel
theorem dX1_pop_74 : decode cX1_pop 74 = .ok (.getfield 21, 3) := by decide +kernel
theorem dX1_pop_77 : decode cX1_pop 77 = .ok (.iaload, 1) := by decide +kernel
theorem dX1_pop_78 : decode cX1_pop 78 = .ok (.putfield 40, 3) := by decide +kernel
theorem dX1_pop_81 : decode cX1_pop 81 = .ok (.return_, 1) := by decide +kernel
theorem dX1_dropOldest_0 : decode cX1_dropOldest 0 = .ok (.aload_n 0, 1) := by decide +kernel
theorem dX1_dropOldest_1 : decode cX1_dropOldest 1 = .ok (.bipush 7, 2) := by decide +kernel
theorem dX1_dropOldest_3 : decode cX1_dropOldest 3 = .ok (.putfield 21, 3) := by decide +kernel
theorem dX1_dropOldest_6 : decode cX1_dropOldest 6 = .ok (.aload_n 0, 1) := by decide +kernel
theorem dX1_dropOldest_7 : decode cX1_dropOldest 7 = .ok (.getfield 9, 3) := by decide +kernel
theorem dX1_dropOldest_10 : decode cX1_dropOldest 10 = .ok (.bipush 36, 2) := by decide +kernel
theorem dX1_dropOldest_12 : decode cX1_dropOldest 12 = .ok (.aload_n 0, 1) := by decide +kernel
theorem dX1_dropOldest_13 : decode cX1_dropOldest 13 = .ok (.getfield 9, 3) := by decide +kernel
theorem dX1_dropOldest_16 : decode cX1_dropOldest 16 = .ok (.iconst 0, 1) := by decide +kernel
theorem dX1_dropOldest_17 : decode cX1_dropOldest 17 = .ok (.aload_n 0, 1) := by decide +kernel
theorem dX1_dropOldest_18 : decode cX1_dropOldest 18 = .ok (.getfield 21, 3) := by decide +kernel
theorem dX1_dropOldest_21 : decode cX1_dropOldest 21 = .ok (.bipush 36, 2) := by decide +kernel
theorem dX1_dropOldest_23 : decode cX1_dropOldest 23 = .ok (.imul, 1) := by decide +kernel
theorem dX1_dropOldest_24 : decode cX1_dropOldest 24 = .ok (.invokestatic 33, 3) := by decide +kernel
theorem dX1_dropOldest_27 : decode cX1_dropOldest 27 = .ok (.aload_n 0, 1) := by decide +kernel
theorem dX1_dropOldest_28 : decode cX1_dropOldest 28 = .ok (.getfield 15, 3) := by decide +kernel
theorem dX1_dropOldest_31 : decode cX1_dropOldest 31 = .ok (.bipush 36, 2) := by decide +kernel
theorem dX1_dropOldest_33 : decode cX1_dropOldest 33 = .ok (.aload_n 0, 1) := by decide +kernel
theorem dX1_dropOldest_34 : decode cX1_dropOldest 34 = .ok (.getfield 15, 3) := by decide +kernel
theorem dX1_dropOldest_37 : decode cX1_dropOldest 37 = .ok (.iconst 0, 1) := by decide +kernel
theorem dX1_dropOldest_38 : decode cX1_dropOldest 38 = .ok (.aload_n 0, 1) := by decide +kernel
theorem dX1_dropOldest_39 : decode cX1_dropOldest 39 = .ok (.getfield 21, 3) := by decide +kernel
theorem dX1_dropOldest_42 : decode cX1_dropOldest 42 = .ok (.bipush 36, 2) := by decide +kernel
theorem dX1_dropOldest_44 : decode cX1_dropOldest 44 = .ok (.imul, 1) := by decide +kernel
theorem dX1_dropOldest_45 : decode cX1_dropOldest 45 = .ok (.invokestatic 33, 3) := by decide +kernel
theorem dX1_dropOldest_48 : decode cX1_dropOldest 48 = .ok (.aload_n 0, 1) := by decide +kernel
theorem dX1_dropOldest_49 : decode cX1_dropOldest 49 = .ok (.getfield 18, 3) := by decide +kernel
theorem dX1_dropOldest_52 : decode cX1_dropOldest 52 = .ok (.iconst 1, 1) := by decide +kernel
theorem dX1_dropOldest_53 : decode cX1_dropOldest 53 = .ok (.aload_n 0, 1) := by decide +kernel
theorem dX1_dropOldest_54 : decode cX1_dropOldest 54 = .ok (.getfield 18, 3) := by decide +kernel
theorem dX1_dropOldest_57 : decode cX1_dropOldest 57 = .ok (.iconst 0, 1) := by decide +kernel
theorem dX1_dropOldest_58 : decode cX1_dropOldest 58 = .ok (.aload_n 0, 1) := by decide +kernel
theorem dX1_dropOldest_59 : decode cX1_dropOldest 59 = .ok (.getfield 21, 3) := by decide +kernel
theorem dX1_dropOldest_62 : decode cX1_dropOldest 62 = .ok (.invokestatic 33, 3) := by decide +kernel
theorem dX1_dropOldest_65 : decode cX1_dropOldest 65 = .ok (.return_, 1) := by decide +kernel
theorem dX2_init_0 : decode cX2_init 0 = .ok (.aload_n 0, 1) := by decide +kernel
theorem dX2_init_1 : decode cX2_init 1 = .ok (.invokespecial 3, 3) := by decide +kernel
theorem dX2_init_4 : decode cX2_init 4 = .ok (.aload_n 0, 1) := by decide +kernel
theorem dX2_init_5 : decode cX2_init 5 = .ok (.bipush 36, 2) := by decide +kernel
theorem dX2_init_7 : decode cX2_init 7 = .ok (.newarray .int, 2) := by decide +kernel
theorem dX2_init_9 : decode cX2_init 9 = .ok (.putfield 9, 3) := by decide +kernel
theorem dX2_init_12 : decode cX2_init 12 = .ok (.aload_n 0, 1) := by decide +kernel
theorem dX2_init_13 : decode cX2_init 13 = .ok (.bipush 36, 2) := by decide +kernel
theorem dX2_init_15 : decode cX2_init 15 = .ok (.newarray .int, 2) := by decide +kernel
theorem dX2_init_17 : decode cX2_init 17 = .ok (.putfield 15, 3) := by decide +kernel
theorem dX2_init_20 : decode cX2_init 20 = .ok (.aload_n 0, 1) := by decide +kernel
theorem dX2_init_21 : decode cX2_init 21 = .ok (.iconst 0, 1) := by decide +kernel
theorem dX2_init_22 : decode cX2_init 22 = .ok (.putfield 18, 3) := by decide +kernel
theorem dX2_init_25 : decode cX2_init 25 = .ok (.aload_n 0, 1) := by decide +kernel
theorem dX2_init_26 : decode cX2_init 26 = .ok (.iconst 0, 1) := by decide +kernel
theorem dX2_init_27 : decode cX2_init 27 = .ok (.putfield 22, 3) := by decide +kernel
theorem dX2_init_30 : decode cX2_init 30 = .ok (.aload_n 0, 1) := by decide +kernel
theorem dX2_init_31 : decode cX2_init 31 = .ok (.iconst 0, 1) := by decide +kernel
theorem dX2_init_32 : decode cX2_init 32 = .ok (.putfield 25, 3) := by decide +kernel
theorem dX2_init_35 : decode cX2_init 35 = .ok (.return_, 1) := by decide +kernel
theorem dX2_map_0 : decode cX2_map 0 = .ok (.aload_n 0, 1) := by decide +kernel
theorem dX2_map_1 : decode cX2_map 1 = .ok (.getfield 9, 3) := by decide +kernel
theorem dX2_map_4 : decode cX2_map 4 = .ok (.bipush (-4), 2) := by decide +kernel
theorem dX2_map_6 : decode cX2_map 6 = .ok (.invokestatic 28, 3) := by decide +kernel
theorem dX2_map_9 : decode cX2_map 9 = .ok (.aload_n 0, 1) := by decide +kernel
theorem dX2_map_10 : decode cX2_map 10 = .ok (.aload_n 1, 1) := by decide +kernel
theorem dX2_map_11 : decode cX2_map 11 = .ok (.getfield 34, 3) := by decide +kernel
theorem dX2_map_14 : decode cX2_map 14 = .ok (.putfield 22, 3) := by decide +kernel
theorem dX2_map_17 : decode cX2_map 17 = .ok (.aload_n 0, 1) := by decide +kernel
theorem dX2_map_18 : decode cX2_map 18 = .ok (.iconst 0, 1) := by decide +kernel
theorem dX2_map_19 : decode cX2_map 19 = .ok (.putfield 25, 3) := by decide +kernel
theorem dX2_map_22 : decode cX2_map 22 = .ok (.iconst 0, 1) := by decide +kernel
theorem dX2_map_23 : decode cX2_map 23 = .ok (.istore_n 3, 1) := by decide +kernel
theorem dX2_map_24 : decode cX2_map 24 = .ok (.iload_n 3, 1) := by decide +kernel
theorem dX2_map_25 : decode cX2_map 25 = .ok (.aload_n 1, 1) := by decide +kernel
theorem dX2_map_26 : decode cX2_map 26 = .ok (.getfield 34, 3) := by decide +kernel
theorem dX2_map_29 : decode cX2_map 29 = .ok (.if_icmp .ge 52, 3) := by decide +kernel
theorem dX2_map_32 : decode cX2_map 32 = .ok (.iload_n 3, 1) := by decide +kernel
theorem dX2_map_33 : decode cX2_map 33 = .ok (.bipush 36, 2) := by decide +kernel
theorem dX2_map_35 : decode cX2_map 35 = .ok (.if_icmp .ge 46, 3) := by decide +kernel
theorem dX2_map_38 : decode cX2_map 38 = .ok (.aload_n 2, 1) := by decide +kernel
theorem dX2_map_39 : decode cX2_map 39 = .ok (.getfield 37, 3) := by decide +kernel
theorem dX2_map_42 : decode cX2_map 42 = .ok (.iload_n 3, 1) := by decide +kernel
theorem dX2_map_43 : decode cX2_map 43 = .ok (.iaload, 1) := by decide +kernel
theorem dX2_map_44 : decode cX2_map 44 = .ok (.ifCond .le 31, 3) := by decide +kernel
theorem dX2_map_47 : decode cX2_map 47 = .ok (.aload_n 0, 1) := by decide +kernel
theorem dX2_map_48 : decode cX2_map 48 = .ok (.getfield 9, 3) := by decide +kernel
theorem dX2_map_51 : decode cX2_map 51 = .ok (.iload_n 3, 1) := by decide +kernel
theorem dX2_map_52 : decode cX2_map 52 = .ok (.iaload, 1) := by decide +kernel
theorem dX2_map_53 : decode cX2_map 53 = .ok (.bipush (-4), 2) := by decide +kernel
theorem dX2_map_55 : decode cX2_map 55 = .ok (.if_icmp .ne 20, 3) := by decide +kernel
theorem dX2_map_58 : decode cX2_map 58 = .ok (.aload_n 0, 1) := by decide +kernel
theorem dX2_map_59 : decode cX2_map 59 = .ok (.dup, 1) := by decide +kernel
theorem dX2_map_60 : decode cX2_map 60 = .ok (.getfield 25, 3) := by decide +kernel
theorem dX2_map_63 : decode cX2_map 63 = .ok (.iconst 1, 1) := by decide +kernel
theorem dX2_map_64 : decode cX2_map 64 = .ok (.iadd, 1) := by decide +kernel
theorem dX2_map_65 : decode cX2_map 65 = .ok (.putfield 25, 3) := by decide +kernel
theorem dX2_map_68 : decode cX2_map 68 = .ok (.aload_n 0, 1) := by decide +kernel
theorem dX2_map_69 : decode cX2_map 69 = .ok (.aload_n 1, 1) := by decide +kernel
theorem dX2_map_70 : decode cX2_map 70 = .ok (.aload_n 2, 1) := by decide +kernel
theorem dX2_map_71 : decode cX2_map 71 = .ok (.iload_n 3, 1) := by decide +kernel
theorem dX2_map_72 : decode cX2_map 72 = .ok (.invokevirtual 42, 3) := by decide +kernel
theorem dX2_map_75 : decode cX2_map 75 = .ok (.iinc 3 1, 3) := by decide +kernel
theorem dX2_map_78 : decode cX2_map 78 = .ok (.goto (-54), 3) := by decide +kernel
theorem dX2_map_81 : decode cX2_map 81 = .ok (.return_, 1) := by decide +kernel
theorem dX2_spread_0 : decode cX2_spread 0 = .ok (.aload_n 0, 1) := by decide +kernel
theorem dX2_spread_1 : decode cX2_spread 1 = .ok (.iconst 0, 1) := by decide +kernel
theorem dX2_spread_2 : decode cX2_spread 2 = .ok (.putfield 18, 3) := by decide +kernel
theorem dX2_spread_5 : decode cX2_spread 5 = .ok (.aload_n 0, 1) := by decide +kernel
theorem dX2_spread_6 : decode cX2_spread 6 = .ok (.aload_n 2, 1) := by decide +kernel
theorem dX2_spread_7 : decode cX2_spread 7 = .ok (.iload_n 3, 1) := by decide +kernel
theorem dX2_spread_8 : decode cX2_spread 8 = .ok (.iload_n 3, 1) := by decide +kernel
theorem dX2_spread_9 : decode cX2_spread 9 = .ok (.invokevirtual 46, 3) := by decide +kernel
theorem dX2_spread_12 : decode cX2_spread 12 = .ok (.iconst 0, 1) := by decide +kernel
theorem dX2_spread_13 : decode cX2_spread 13 = .ok (.istore 4, 2) := by decide +kernel
theorem dX2_spread_15 : decode cX2_spread 15 = .ok (.iload 4, 2) := by decide +kernel
theorem dX2_spread_17 : decode cX2_spread 17 = .ok (.bipush 36, 2) := by decide +kernel
theorem dX2_spread_19 : decode cX2_spread 19 = .ok (.if_icmp .ge 66, 3) := by decide +kernel
theorem dX2_spread_22 : decode cX2_spread 22 = .ok (.aload_n 0, 1) := by decide +kernel
theorem dX2_spread_23 : decode cX2_spread 23 = .ok (.getfield 18, 3) := by decide +kernel
theorem dX2_spread_26 : decode cX2_spread 26 = .ok (.ifCond .le 59, 3) := by decide +kernel
theorem dX2_spread_29 : decode cX2_spread 29 = .ok (.aload_n 0, 1) := by decide +kernel
theorem dX2_spread_30 : decode cX2_spread 30 = .ok (.dup, 1) := by decide +kernel
theorem dX2_spread_31 : decode cX2_spread 31 = .ok (.getfield 18, 3) := by decide +kernel
theorem dX2_spread_34 : decode cX2_spread 34 = .ok (.iconst 1, 1) := by decide +kernel
theorem dX2_spread_35 : decode cX2_spread 35 = .ok (.isub, 1) := by decide +kernel
theorem dX2_spread_36 : decode cX2_spread 36 = .ok (.putfield 18, 3) := by decide +kernel
theorem dX2_spread_39 : decode cX2_spread 39 = .ok (.aload_n 0, 1) := by decide +kernel
theorem dX2_spread_40 : decode cX2_spread 40 = .ok (.getfield 15, 3) := by decide +kernel
theorem dX2_spread_43 : decode cX2_spread 43 = .ok (.aload_n 0, 1) := by decide +kernel
theorem dX2_spread_44 : decode cX2_spread 44 = .ok (.getfield 18, 3) := by decide +kernel
theorem dX2_spread_47 : decode cX2_spread 47 = .ok (.iaload, 1) := by decide +kernel
theorem dX2_spread_48 : decode cX2_spread 48 = .ok (.istore 5, 2) := by decide +kernel
theorem dX2_spread_50 : decode cX2_spread 50 = .ok (.iconst 0, 1) := by decide +kernel
theorem dX2_spread_51 : decode cX2_spread 51 = .ok (.istore 6, 2) := by decide +kernel
theorem dX2_spread_53 : decode cX2_spread 53 = .ok (.iload 6, 2) := by decide +kernel
theorem dX2_spread_55 : decode cX2_spread 55 = .ok (.iconst 4, 1) := by decide +kernel
theorem dX2_spread_56 : decode cX2_spread 56 = .ok (.if_icmp .ge 23, 3) := by decide +kernel
theorem dX2_spread_59 : decode cX2_spread 59 = .ok (.aload_n 0, 1) := by decide +kernel
theorem dX2_spread_60 : decode cX2_spread 60 = .ok (.aload_n 2, 1) := by decide +kernel
theorem dX2_spread_61 : decode cX2_spread 61 = .ok (.aload_n 1, 1) := by decide +kernel
theorem dX2_spread_62 : decode cX2_spread 62 = .ok (.iload 5, 2) := by decide +kernel
theorem dX2_spread_64 : decode cX2_spread 64 = .ok (.iload 6, 2) := by decide +kernel
theorem dX2_spread_66 : decode cX2_spread 66 = .ok (.invokevirtual 50, 3) := by decide +kernel
theorem dX2_spread_69 : decode cX2_spread 69 = .ok (.iload_n 3, 1) := by decide +kernel
theorem dX2_spread_70 : decode cX2_spread 70 = .ok (.invokevirtual 46, 3) := by decide +kernel
theorem dX2_spread_73 : decode cX2_spread 73 = .ok (.iinc 6 1, 3) := by decide +kernel
theorem dX2_spread_76 : decode cX2_spread 76 = .ok (.goto (-23), 3) := by decide +kernel
theorem dX2_spread_79 : decode cX2_spread 79 = .ok (.iinc 4 1, 3) := by decide +kernel
theorem dX2_spread_82 : decode cX2_spread 82 = .ok (.goto (-67), 3) := by decide +kernel
theorem dX2_spread_85 : decode cX2_spread 85 = .ok (.return_, 1) := by decide +kernel
theorem dX2_claim_0 : decode cX2_claim 0 = .ok (.iload_n 2, 1) := by decide +kernel
theorem dX2_claim_1 : decode cX2_claim 1 = .ok (.ifCond .lt 65, 3) := by decide +kernel
theorem dX2_claim_4 : decode cX2_claim 4 = .ok (.iload_n 2, 1) := by decide +kernel
theorem dX2_claim_5 : decode cX2_claim 5 = .ok (.bipush 36, 2) := by decide +kernel
theorem dX2_claim_7 : decode cX2_claim 7 = .ok (.if_icmp .ge 59, 3) := by decide +kernel
theorem dX2_claim_10 : decode cX2_claim 10 = .ok (.aload_n 1, 1) := by decide +kernel
theorem dX2_claim_11 : decode cX2_claim 11 = .ok (.getfield 37, 3) := by decide +kernel
theorem dX2_claim_14 : decode cX2_claim 14 = .ok (.iload_n 2, 1) := by decide +kernel
theorem dX2_claim_15 : decode cX2_claim 15 = .ok (.iaload, 1) := by decide +kernel
theorem dX2_claim_16 : decode cX2_claim 16 = .ok (.ifCond .le 50, 3) := by decide +kernel
theorem dX2_claim_19 : decode cX2_claim 19 = .ok (.aload_n 0, 1) := by decide +kernel
theorem dX2_claim_20 : decode cX2_claim 20 = .ok (.getfield 9, 3) := by decide +kernel
theorem dX2_claim_23 : decode cX2_claim 23 = .ok (.iload_n 2, 1) := by decide +kernel
theorem dX2_claim_24 : decode cX2_claim 24 = .ok (.iaload, 1) := by decide +kernel
theorem dX2_claim_25 : decode cX2_claim 25 = .ok (.bipush (-4), 2) := by decide +kernel
theorem dX2_claim_27 : decode cX2_claim 27 = .ok (.if_icmp .ne 39, 3) := by decide +kernel
theorem dX2_claim_30 : decode cX2_claim 30 = .ok (.aload_n 0, 1) := by decide +kernel
theorem dX2_claim_31 : decode cX2_claim 31 = .ok (.getfield 18, 3) := by decide +kernel
theorem dX2_claim_34 : decode cX2_claim 34 = .ok (.bipush 36, 2) := by decide +kernel
theorem dX2_claim_36 : decode cX2_claim 36 = .ok (.if_icmp .ge 30, 3) := by decide +kernel
theorem dX2_claim_39 : decode cX2_claim 39 = .ok (.aload_n 0, 1) := by decide +kernel
theorem dX2_claim_40 : decode cX2_claim 40 = .ok (.getfield 9, 3) := by decide +kernel
theorem dX2_claim_43 : decode cX2_claim 43 = .ok (.iload_n 2, 1) := by decide +kernel
theorem dX2_claim_44 : decode cX2_claim 44 = .ok (.iload_n 3, 1) := by decide +kernel
theorem dX2_claim_45 : decode cX2_claim 45 = .ok (.iastore, 1) := by decide +kernel
theorem dX2_claim_46 : decode cX2_claim 46 = .ok (.aload_n 0, 1) := by decide +kernel
theorem dX2_claim_47 : decode cX2_claim 47 = .ok (.getfield 15, 3) := by decide +kernel
theorem dX2_claim_50 : decode cX2_claim 50 = .ok (.aload_n 0, 1) := by decide +kernel
theorem dX2_claim_51 : decode cX2_claim 51 = .ok (.getfield 18, 3) := by decide +kernel
theorem dX2_claim_54 : decode cX2_claim 54 = .ok (.iload_n 2, 1) := by decide +kernel
theorem dX2_claim_55 : decode cX2_claim 55 = .ok (.iastore, 1) := by decide +kernel
theorem dX2_claim_56 : decode cX2_claim 56 = .ok (.aload_n 0, 1) := by decide +kernel
theorem dX2_claim_57 : decode cX2_claim 57 = .ok (.dup, 1) := by decide +kernel
theorem dX2_claim_58 : decode cX2_claim 58 = .ok (.getfield 18, 3) := by decide +kernel
theorem dX2_claim_61 : decode cX2_claim 61 = .ok (.iconst 1, 1) := by decide +kernel
theorem dX2_claim_62 : decode cX2_claim 62 = .ok (.iadd, 1) := by decide +kernel
theorem dX2_claim_63 : decode cX2_claim 63 = .ok (.putfield 18, 3) := by decide +kernel
theorem dX2_claim_66 : decode cX2_claim 66 = .ok (.return_, 1) := by decide +kernel
theorem dX2_stateOf_0 : decode cX2_stateOf 0 = .ok (.iload_n 1, 1) := by decide +kernel
theorem dX2_stateOf_1 : decode cX2_stateOf 1 = .ok (.ifCond .lt 26, 3) := by decide +kernel
theorem dX2_stateOf_4 : decode cX2_stateOf 4 = .ok (.iload_n 1, 1) := by decide +kernel
theorem dX2_stateOf_5 : decode cX2_stateOf 5 = .ok (.aload_n 0, 1) := by decide +kernel
theorem dX2_stateOf_6 : decode cX2_stateOf 6 = .ok (.getfield 22, 3) := by decide +kernel
theorem dX2_stateOf_9 : decode cX2_stateOf 9 = .ok (.if_icmp .ge 18, 3) := by decide +kernel
theorem dX2_stateOf_12 : decode cX2_stateOf 12 = .ok (.iload_n 1, 1) := by decide +kernel
theorem dX2_stateOf_13 : decode cX2_stateOf 13 = .ok (.bipush 36, 2) := by decide +kernel
theorem dX2_stateOf_15 : decode cX2_stateOf 15 = .ok (.if_icmp .ge 12, 3) := by decide +kernel
theorem dX2_stateOf_18 : decode cX2_stateOf 18 = .ok (.aload_n 0, 1) := by decide +kernel
theorem dX2_stateOf_19 : decode cX2_stateOf 19 = .ok (.getfield 9, 3) := by decide +kernel
theorem dX2_stateOf_22 : decode cX2_stateOf 22 = .ok (.iload_n 1, 1) := by decide +kernel
theorem dX2_stateOf_23 : decode cX2_stateOf 23 = .ok (.iaload, 1) := by decide +kernel
theorem dX2_stateOf_24 : decode cX2_stateOf 24 = .ok (.goto 5, 3) := by decide +kernel
theorem dX2_stateOf_27 : decode cX2_stateOf 27 = .ok (.bipush (-4), 2) := by decide +kernel
theorem dX2_stateOf_29 : decode cX2_stateOf 29 = .ok (.ireturn, 1) := by decide +kernel
theorem dX2_apart_0 : decode cX2_apart 0 = .ok (.aload_n 0, 1) := by decide +kernel
theorem dX2_apart_1 : decode cX2_apart 1 = .ok (.iload_n 1, 1) := by decide +kernel
theorem dX2_apart_2 : decode cX2_apart 2 = .ok (.invokevirtual 54, 3) := by decide +kernel
theorem dX2_apart_5 : decode cX2_apart 5 = .ok (.bipush (-4), 2) := by decide +kernel
theorem dX2_apart_7 : decode cX2_apart 7 = .ok (.if_icmp .eq 16, 3) := by decide +kernel
theorem dX2_apart_10 : decode cX2_apart 10 = .ok (.aload_n 0, 1) := by decide +kernel
theorem dX2_apart_11 : decode cX2_apart 11 = .ok (.iload_n 1, 1) := by decide +kernel
theorem dX2_apart_12 : decode cX2_apart 12 = .ok (.invokevirtual 54, 3) := by decide +kernel
theorem dX2_apart_15 : decode cX2_apart 15 = .ok (.aload_n 0, 1) := by decide +kernel
theorem dX2_apart_16 : decode cX2_apart 16 = .ok (.iload_n 2, 1) := by decide +kernel
theorem dX2_apart_17 : decode cX2_apart 17 = .ok (.invokevirtual 54, 3) := by decide +kernel
theorem dX2_apart_20 : decode cX2_apart 20 = .ok (.if_icmp .eq 7, 3) := by decide +kernel
theorem dX2_apart_23 : decode cX2_apart 23 = .ok (.iconst 1, 1) := by decide +kernel
theorem dX2_apart_24 : decode cX2_apart 24 = .ok (.goto 4, 3) := by decide +kernel
theorem dX2_apart_27 : decode cX2_apart 27 = .ok (.iconst 0, 1) := by decide +kernel
theorem dX2_apart_28 : decode cX2_apart 28 = .ok (.ireturn, 1) := by decide +kernel
theorem dX2_sizeAt_0 : decode cX2_sizeAt 0 = .ok (.aload_n 0, 1) := by decide +kernel
theorem dX2_sizeAt_1 : decode cX2_sizeAt 1 = .ok (.iload_n 1, 1) := by decide +kernel
theorem dX2_sizeAt_2 : decode cX2_sizeAt 2 = .ok (.invokevirtual 54, 3) := by decide +kernel
theorem dX2_sizeAt_5 : decode cX2_sizeAt 5 = .ok (.istore_n 2, 1) := by decide +kernel
theorem dX2_sizeAt_6 : decode cX2_sizeAt 6 = .ok (.iconst 0, 1) := by decide +kernel
theorem dX2_sizeAt_7 : decode cX2_sizeAt 7 = .ok (.istore_n 3, 1) := by decide +kernel
theorem dX2_sizeAt_8 : decode cX2_sizeAt 8 = .ok (.iconst 0, 1) := by decide +kernel
theorem dX2_sizeAt_9 : decode cX2_sizeAt 9 = .ok (.istore 4, 2) := by decide +kernel
theorem dX2_sizeAt_11 : decode cX2_sizeAt 11 = .ok (.iload 4, 2) := by decide +kernel
theorem dX2_sizeAt_13 : decode cX2_sizeAt 13 = .ok (.aload_n 0, 1) := by decide +kernel
theorem dX2_sizeAt_14 : decode cX2_sizeAt 14 = .ok (.getfield 22, 3) := by decide +kernel
theorem dX2_sizeAt_17 : decode cX2_sizeAt 17 = .ok (.if_icmp .ge 28, 3) := by decide +kernel
theorem dX2_sizeAt_20 : decode cX2_sizeAt 20 = .ok (.iload_n 2, 1) := by decide +kernel
theorem dX2_sizeAt_21 : decode cX2_sizeAt 21 = .ok (.bipush (-4), 2) := by decide +kernel
theorem dX2_sizeAt_23 : decode cX2_sizeAt 23 = .ok (.if_icmp .eq 22, 3) := by decide +kernel
theorem dX2_sizeAt_26 : decode cX2_sizeAt 26 = .ok (.aload_n 0, 1) := by decide +kernel
theorem dX2_sizeAt_27 : decode cX2_sizeAt 27 = .ok (.iload 4, 2) := by decide +kernel
theorem dX2_sizeAt_29 : decode cX2_sizeAt 29 = .ok (.invokevirtual 54, 3) := by decide +kernel
theorem dX2_sizeAt_32 : decode cX2_sizeAt 32 = .ok (.iload_n 2, 1) := by decide +kernel
theorem dX2_sizeAt_33 : decode cX2_sizeAt 33 = .ok (.if_icmp .ne 6, 3) := by decide +kernel
theorem dX2_sizeAt_36 : decode cX2_sizeAt 36 = .ok (.iinc 3 1, 3) := by decide +kernel
theorem dX2_sizeAt_39 : decode cX2_sizeAt 39 = .ok (.iinc 4 1, 3) := by decide +kernel
theorem dX2_sizeAt_42 : decode cX2_sizeAt 42 = .ok (.goto (-31), 3) := by decide +kernel
theorem dX2_sizeAt_45 : decode cX2_sizeAt 45 = .ok (.iload_n 3, 1) := by decide +kernel
theorem dX2_sizeAt_46 : decode cX2_sizeAt 46 = .ok (.ireturn, 1) := by decide +kernel
theorem dX2_depthAt_0 : decode cX2_depthAt 0 = .ok (.aload_n 0, 1) := by decide +kernel
theorem dX2_depthAt_1 : decode cX2_depthAt 1 = .ok (.iload_n 1, 1) := by decide +kernel
theorem dX2_depthAt_2 : decode cX2_depthAt 2 = .ok (.invokevirtual 54, 3) := by decide +kernel
theorem dX2_depthAt_5 : decode cX2_depthAt 5 = .ok (.istore_n 3, 1) := by decide +kernel
theorem dX2_depthAt_6 : decode cX2_depthAt 6 = .ok (.iconst 0, 1) := by decide +kernel
theorem dX2_depthAt_7 : decode cX2_depthAt 7 = .ok (.istore 4, 2) := by decide +kernel
theorem dX2_depthAt_9 : decode cX2_depthAt 9 = .ok (.iconst 0, 1) := by decide +kernel
theorem dX2_depthAt_10 : decode cX2_depthAt 10 = .ok (.istore 5, 2) := by decide +kernel
theorem dX2_depthAt_12 : decode cX2_depthAt 12 = .ok (.iload 5, 2) := by decide +kernel
theorem dX2_depthAt_14 : decode cX2_depthAt 14 = .ok (.aload_n 0, 1) := by decide +kernel
theorem dX2_depthAt_15 : decode cX2_depthAt 15 = .ok (.getfield 22, 3) := by decide +kernel
theorem dX2_depthAt_18 : decode cX2_depthAt 18 = .ok (.if_icmp .ge 47, 3) := by decide +kernel
theorem dX2_depthAt_21 : decode cX2_depthAt 21 = .ok (.iload 5, 2) := by decide +kernel
theorem dX2_depthAt_23 : decode cX2_depthAt 23 = .ok (.bipush 36, 2) := by decide +kernel
theorem dX2_depthAt_25 : decode cX2_depthAt 25 = .ok (.if_icmp .ge 40, 3) := by decide +kernel
theorem dX2_depthAt_28 : decode cX2_depthAt 28 = .ok (.iload_n 3, 1) := by decide +kernel
theorem dX2_depthAt_29 : decode cX2_depthAt 29 = .ok (.bipush (-4), 2) := by decide +kernel
theorem dX2_depthAt_31 : decode cX2_depthAt 31 = .ok (.if_icmp .eq 34, 3) := by decide +kernel
theorem dX2_depthAt_34 : decode cX2_depthAt 34 = .ok (.aload_n 0, 1) := by decide +kernel
theorem dX2_depthAt_35 : decode cX2_depthAt 35 = .ok (.getfield 9, 3) := by decide +kernel
theorem dX2_depthAt_38 : decode cX2_depthAt 38 = .ok (.iload 5, 2) := by decide +kernel
theorem dX2_depthAt_40 : decode cX2_depthAt 40 = .ok (.iaload, 1) := by decide +kernel
theorem dX2_depthAt_41 : decode cX2_depthAt 41 = .ok (.iload_n 3, 1) := by decide +kernel
theorem dX2_depthAt_42 : decode cX2_depthAt 42 = .ok (.if_icmp .ne 17, 3) := by decide +kernel
theorem dX2_depthAt_45 : decode cX2_depthAt 45 = .ok (.iload 4, 2) := by decide +kernel
theorem dX2_depthAt_47 : decode cX2_depthAt 47 = .ok (.aload_n 2, 1) := by decide +kernel
theorem dX2_depthAt_48 : decode cX2_depthAt 48 = .ok (.getfield 37, 3) := by decide +kernel
theorem dX2_depthAt_51 : decode cX2_depthAt 51 = .ok (.iload 5, 2) := by decide +kernel
theorem dX2_depthAt_53 : decode cX2_depthAt 53 = .ok (.iaload, 1) := by decide +kernel
theorem dX2_depthAt_54 : decode cX2_depthAt 54 = .ok (.invokestatic 58, 3) := by decide +kernel
theorem dX2_depthAt_57 : decode cX2_depthAt 57 = .ok (.istore 4, 2) := by decide +kernel
theorem dX2_depthAt_59 : decode cX2_depthAt 59 = .ok (.iinc 5 1, 3) := by decide +kernel
theorem dX2_depthAt_62 : decode cX2_depthAt 62 = .ok (.goto (-50), 3) := by decide +kernel
theorem dX2_depthAt_65 : decode cX2_depthAt 65 = .ok (.iload 4, 2) := by decide +kernel
theorem dX2_depthAt_67 : decode cX2_depthAt 67 = .ok (.ireturn, 1) := by decide +kernel
theorem dX3_init_0 : decode cX3_init 0 = .ok (.aload_n 0, 1) := by decide +kernel
theorem dX3_init_1 : decode cX3_init 1 = .ok (.invokespecial 3, 3) := by decide +kernel
theorem dX3_init_4 : decode cX3_init 4 = .ok (.aload_n 0, 1) := by decide +kernel
theorem dX3_init_5 : decode cX3_init 5 = .ok (.sipush 200, 3) := by decide +kernel
theorem dX3_init_8 : decode cX3_init 8 = .ok (.newarray .char, 2) := by decide +kernel
theorem dX3_init_10 : decode cX3_init 10 = .ok (.putfield 9, 3) := by decide +kernel
theorem dX3_init_13 : decode cX3_init 13 = .ok (.aload_n 0, 1) := by decide +kernel
theorem dX3_init_14 : decode cX3_init 14 = .ok (.iconst 0, 1) := by decide +kernel
theorem dX3_init_15 : decode cX3_init 15 = .ok (.putfield 15, 3) := by decide +kernel
theorem dX3_init_18 : decode cX3_init 18 = .ok (.aload_n 0, 1) := by decide +kernel
theorem dX3_init_19 : decode cX3_init 19 = .ok (.iconst 0, 1) := by decide +kernel
theorem dX3_init_20 : decode cX3_init 20 = .ok (.putfield 19, 3) := by decide +kernel
theorem dX3_init_23 : decode cX3_init 23 = .ok (.return_, 1) := by decide +kernel
theorem dX3_add_0 : decode cX3_add 0 = .ok (.aload_n 0, 1) := by decide +kernel
theorem dX3_add_1 : decode cX3_add 1 = .ok (.getfield 15, 3) := by decide +kernel
theorem dX3_add_4 : decode cX3_add 4 = .ok (.ifCond .lt 33, 3) := by decide +kernel
theorem dX3_add_7 : decode cX3_add 7 = .ok (.aload_n 0, 1) := by decide +kernel
theorem dX3_add_8 : decode cX3_add 8 = .ok (.getfield 15, 3) := by decide +kernel
theorem dX3_add_11 : decode cX3_add 11 = .ok (.sipush 200, 3) := by decide +kernel
theorem dX3_add_14 : decode cX3_add 14 = .ok (.if_icmp .ge 23, 3) := by decide +kernel
theorem dX3_add_17 : decode cX3_add 17 = .ok (.aload_n 0, 1) := by decide +kernel
theorem dX3_add_18 : decode cX3_add 18 = .ok (.getfield 9, 3) := by decide +kernel
theorem dX3_add_21 : decode cX3_add 21 = .ok (.aload_n 0, 1) := by decide +kernel
theorem dX3_add_22 : decode cX3_add 22 = .ok (.getfield 15, 3) := by decide +kernel
theorem dX3_add_25 : decode cX3_add 25 = .ok (.iload_n 1, 1) := by decide +kernel
theorem dX3_add_26 : decode cX3_add 26 = .ok (.castore, 1) := by decide +kernel
theorem dX3_add_27 : decode cX3_add 27 = .ok (.aload_n 0, 1) := by decide +kernel
theorem dX3_add_28 : decode cX3_add 28 = .ok (.dup, 1) := by decide +kernel
theorem dX3_add_29 : decode cX3_add 29 = .ok (.getfield 15, 3) := by decide +kernel
theorem dX3_add_32 : decode cX3_add 32 = .ok (.iconst 1, 1) := by decide +kernel
theorem dX3_add_33 : decode cX3_add 33 = .ok (.iadd, 1) := by decide +kernel
theorem dX3_add_34 : decode cX3_add 34 = .ok (.putfield 15, 3) := by decide +kernel
theorem dX3_add_37 : decode cX3_add 37 = .ok (.return_, 1) := by decide +kernel
theorem dX3_empty_0 : decode cX3_empty 0 = .ok (.aload_n 0, 1) := by decide +kernel
theorem dX3_empty_1 : decode cX3_empty 1 = .ok (.iconst 0, 1) := by decide +kernel
theorem dX3_empty_2 : decode cX3_empty 2 = .ok (.putfield 15, 3) := by decide +kernel
theorem dX3_empty_5 : decode cX3_empty 5 = .ok (.return_, 1) := by decide +kernel
theorem dX3_readInto_0 : decode cX3_readInto 0 = .ok (.aload_n 1, 1) := by decide +kernel
theorem dX3_readInto_1 : decode cX3_readInto 1 = .ok (.invokevirtual 22, 3) := by decide +kernel
theorem dX3_readInto_4 : decode cX3_readInto 4 = .ok (.aload_n 2, 1) := by decide +kernel
theorem dX3_readInto_5 : decode cX3_readInto 5 = .ok (.invokevirtual 27, 3) := by decide +kernel
theorem dX3_readInto_8 : decode cX3_readInto 8 = .ok (.aload_n 0, 1) := by decide +kernel
theorem dX3_readInto_9 : decode cX3_readInto 9 = .ok (.iconst 0, 1) := by decide +kernel
theorem dX3_readInto_10 : decode cX3_readInto 10 = .ok (.putfield 19, 3) := by decide +kernel
theorem dX3_readInto_13 : decode cX3_readInto 13 = .ok (.iconst 1, 1) := by decide +kernel
theorem dX3_readInto_14 : decode cX3_readInto 14 = .ok (.istore_n 3, 1) := by decide +kernel
theorem dX3_readInto_15 : decode cX3_readInto 15 = .ok (.iconst 0, 1) := by decide +kernel
theorem dX3_readInto_16 : decode cX3_readInto 16 = .ok (.istore 4, 2) := by decide +kernel
theorem dX3_readInto_18 : decode cX3_readInto 18 = .ok (.aload_n 0, 1) := by decide +kernel
theorem dX3_readInto_19 : decode cX3_readInto 19 = .ok (.getfield 19, 3) := by decide +kernel
theorem dX3_readInto_22 : decode cX3_readInto 22 = .ok (.aload_n 0, 1) := by decide +kernel
theorem dX3_readInto_23 : decode cX3_readInto 23 = .ok (.getfield 15, 3) := by decide +kernel
theorem dX3_readInto_26 : decode cX3_readInto 26 = .ok (.if_icmp .ge 149, 3) := by decide +kernel
theorem dX3_readInto_29 : decode cX3_readInto 29 = .ok (.iload 4, 2) := by decide +kernel
theorem dX3_readInto_31 : decode cX3_readInto 31 = .ok (.sipush 200, 3) := by decide +kernel
theorem dX3_readInto_34 : decode cX3_readInto 34 = .ok (.if_icmp .ge 141, 3) := by decide +kernel
theorem dX3_readInto_37 : decode cX3_readInto 37 = .ok (.aload_n 0, 1) := by decide +kernel
theorem dX3_readInto_38 : decode cX3_readInto 38 = .ok (.getfield 19, 3) := by decide +kernel
theorem dX3_readInto_41 : decode cX3_readInto 41 = .ok (.istore 5, 2) := by decide +kernel
theorem dX3_readInto_43 : decode cX3_readInto 43 = .ok (.aload_n 0, 1) := by decide +kernel
theorem dX3_readInto_44 : decode cX3_readInto 44 = .ok (.invokevirtual 32, 3) := by decide +kernel
theorem dX3_readInto_47 : decode cX3_readInto 47 = .ok (.istore 6, 2) := by decide +kernel
theorem dX3_readInto_49 : decode cX3_readInto 49 = .ok (.aload_n 0, 1) := by decide +kernel
theorem dX3_readInto_50 : decode cX3_readInto 50 = .ok (.invokevirtual 36, 3) := by decide +kernel
theorem dX3_readInto_53 : decode cX3_readInto 53 = .ok (.istore 7, 2) := by decide +kernel
theorem dX3_readInto_55 : decode cX3_readInto 55 = .ok (.aload_n 0, 1) := by decide +kernel
theorem dX3_readInto_56 : decode cX3_readInto 56 = .ok (.bipush 44, 2) := by decide +kernel
theorem dX3_readInto_58 : decode cX3_readInto 58 = .ok (.invokevirtual 39, 3) := by decide +kernel
theorem dX3_readInto_61 : decode cX3_readInto 61 = .ok (.istore 8, 2) := by decide +kernel
theorem dX3_readInto_63 : decode cX3_readInto 63 = .ok (.aload_n 0, 1) := by decide +kernel
theorem dX3_readInto_64 : decode cX3_readInto 64 = .ok (.invokevirtual 36, 3) := by decide +kernel
theorem dX3_readInto_67 : decode cX3_readInto 67 = .ok (.istore 9, 2) := by decide +kernel
theorem dX3_readInto_69 : decode cX3_readInto 69 = .ok (.aload_n 0, 1) := by decide +kernel
theorem dX3_readInto_70 : decode cX3_readInto 70 = .ok (.bipush 59, 2) := by decide +kernel
theorem dX3_readInto_72 : decode cX3_readInto 72 = .ok (.invokevirtual 39, 3) := by decide +kernel
theorem dX3_readInto_75 : decode cX3_readInto 75 = .ok (.istore 10, 2) := by decide +kernel
theorem dX3_readInto_77 : decode cX3_readInto 77 = .ok (.iload 7, 2) := by decide +kernel
theorem dX3_readInto_79 : decode cX3_readInto 79 = .ok (.ifCond .lt 18, 3) := by decide +kernel
theorem dX3_readInto_82 : decode cX3_readInto 82 = .ok (.iload 8, 2) := by decide +kernel
theorem dX3_readInto_84 : decode cX3_readInto 84 = .ok (.ifCond .eq 13, 3) := by decide +kernel
theorem dX3_readInto_87 : decode cX3_readInto 87 = .ok (.iload 9, 2) := by decide +kernel
theorem dX3_readInto_89 : decode cX3_readInto 89 = .ok (.ifCond .lt 8, 3) := by decide +kernel
theorem dX3_readInto_92 : decode cX3_readInto 92 = .ok (.iload 10, 2) := by decide +kernel
theorem dX3_readInto_94 : decode cX3_readInto 94 = .ok (.ifCond .ne 6, 3) := by decide +kernel
theorem dX3_readInto_97 : decode cX3_readInto 97 = .ok (.iload 5, 2) := by decide +kernel
theorem dX3_readInto_99 : decode cX3_readInto 99 = .ok (.ireturn, 1) := by decide +kernel
theorem dX3_readInto_100 : decode cX3_readInto 100 = .ok (.iload 6, 2) := by decide +kernel
theorem dX3_readInto_102 : decode cX3_readInto 102 = .ok (.bipush 115, 2) := by decide +kernel
theorem dX3_readInto_104 : decode cX3_readInto 104 = .ok (.if_icmp .ne 10, 3) := by decide +kernel
theorem dX3_readInto_107 : decode cX3_readInto 107 = .ok (.iload_n 3, 1) := by decide +kernel
theorem dX3_readInto_108 : decode cX3_readInto 108 = .ok (.ifCond .ne 23, 3) := by decide +kernel
theorem dX3_readInto_111 : decode cX3_readInto 111 = .ok (.goto 17, 3) := by decide +kernel
theorem dX3_readInto_114 : decode cX3_readInto 114 = .ok (.aload_n 1, 1) := by decide +kernel
theorem dX3_readInto_115 : decode cX3_readInto 115 = .ok (.aload_n 2, 1) := by decide +kernel
theorem dX3_readInto_116 : decode cX3_readInto 116 = .ok (.iload 6, 2) := by decide +kernel
theorem dX3_readInto_118 : decode cX3_readInto 118 = .ok (.iload 7, 2) := by decide +kernel
theorem dX3_readInto_120 : decode cX3_readInto 120 = .ok (.iload 9, 2) := by decide +kernel
theorem dX3_readInto_122 : decode cX3_readInto 122 = .ok (.invokestatic 43, 3) := by decide +kernel
theorem dX3_readInto_125 : decode cX3_readInto 125 = .ok (.ifCond .ne 6, 3) := by decide +kernel
theorem dX3_readInto_128 : decode cX3_readInto 128 = .ok (.iload 5, 2) := by decide +kernel
theorem dX3_readInto_130 : decode cX3_readInto 130 = .ok (.ireturn, 1) := by decide +kernel
theorem dX3_readInto_131 : decode cX3_readInto 131 = .ok (.iload 6, 2) := by decide +kernel
theorem dX3_readInto_133 : decode cX3_readInto 133 = .ok (.bipush 115, 2) := by decide +kernel
theorem dX3_readInto_135 : decode cX3_readInto 135 = .ok (.if_icmp .ne 17, 3) := by decide +kernel
theorem dX3_readInto_138 : decode cX3_readInto 138 = .ok (.aload_n 1, 1) := by decide +kernel
theorem dX3_readInto_139 : decode cX3_readInto 139 = .ok (.iload 7, 2) := by decide +kernel
theorem dX3_readInto_141 : decode cX3_readInto 141 = .ok (.iload 9, 2) := by decide +kernel
theorem dX3_readInto_143 : decode cX3_readInto 143 = .ok (.invokevirtual 47, 3) := by decide +kernel
theorem dX3_readInto_146 : decode cX3_readInto 146 = .ok (.ifCond .ne 6, 3) := by decide +kernel
theorem dX3_readInto_149 : decode cX3_readInto 149 = .ok (.iload 5, 2) := by decide +kernel
theorem dX3_readInto_151 : decode cX3_readInto 151 = .ok (.ireturn, 1) := by decide +kernel
theorem dX3_readInto_152 : decode cX3_readInto 152 = .ok (.iload_n 3, 1) := by decide +kernel
theorem dX3_readInto_153 : decode cX3_readInto 153 = .ok (.ifCond .eq 14, 3) := by decide +kernel
theorem dX3_readInto_156 : decode cX3_readInto 156 = .ok (.iload 6, 2) := by decide +kernel
theorem dX3_readInto_158 : decode cX3_readInto 158 = .ok (.bipush 115, 2) := by decide +kernel
theorem dX3_readInto_160 : decode cX3_readInto 160 = .ok (.if_icmp .ne 7, 3) := by decide +kernel
theorem dX3_readInto_163 : decode cX3_readInto 163 = .ok (.iconst 1, 1) := by decide +kernel
theorem dX3_readInto_164 : decode cX3_readInto 164 = .ok (.goto 4, 3) := by decide +kernel
theorem dX3_readInto_167 : decode cX3_readInto 167 = .ok (.iconst 0, 1) := by decide +kernel
theorem dX3_readInto_168 : decode cX3_readInto 168 = .ok (.istore_n 3, 1) := by decide +kernel
theorem dX3_readInto_169 : decode cX3_readInto 169 = .ok (.iinc 4 1, 3) := by decide +kernel
theorem dX3_readInto_172 : decode cX3_readInto 172 = .ok (.goto (-154), 3) := by decide +kernel
theorem dX3_readInto_175 : decode cX3_readInto 175 = .ok (.aload_n 1, 1) := by decide +kernel
theorem dX3_readInto_176 : decode cX3_readInto 176 = .ok (.aload_n 2, 1) := by decide +kernel
theorem dX3_readInto_177 : decode cX3_readInto 177 = .ok (.invokestatic 51, 3) := by decide +kernel
theorem dX3_readInto_180 : decode cX3_readInto 180 = .ok (.bipush (-4), 2) := by decide +kernel
theorem dX3_readInto_182 : decode cX3_readInto 182 = .ok (.ireturn, 1) := by decide +kernel
theorem dX3_tellCell_0 : decode cX3_tellCell 0 = .ok (.aload_n 0, 1) := by decide +kernel
theorem dX3_tellCell_1 : decode cX3_tellCell 1 = .ok (.iload_n 3, 1) := by decide +kernel
theorem dX3_tellCell_2 : decode cX3_tellCell 2 = .ok (.invokevirtual 55, 3) := by decide +kernel
theorem dX3_tellCell_5 : decode cX3_tellCell 5 = .ok (.ifCond .ne 5, 3) := by decide +kernel
theorem dX3_tellCell_8 : decode cX3_tellCell 8 = .ok (.iconst 0, 1) := by decide +kernel
theorem dX3_tellCell_9 : decode cX3_tellCell 9 = .ok (.ireturn, 1) := by decide +kernel
theorem dX3_tellCell_10 : decode cX3_tellCell 10 = .ok (.iload_n 2, 1) := by decide +kernel
theorem dX3_tellCell_11 : decode cX3_tellCell 11 = .ok (.bipush 104, 2) := by decide +kernel
theorem dX3_tellCell_13 : decode cX3_tellCell 13 = .ok (.if_icmp .ne 24, 3) := by decide +kernel
theorem dX3_tellCell_16 : decode cX3_tellCell 16 = .ok (.iload 4, 2) := by decide +kernel
theorem dX3_tellCell_18 : decode cX3_tellCell 18 = .ok (.iconst 0, 1) := by decide +kernel
theorem dX3_tellCell_19 : decode cX3_tellCell 19 = .ok (.bipush 20, 2) := by decide +kernel
theorem dX3_tellCell_21 : decode cX3_tellCell 21 = .ok (.invokestatic 58, 3) := by decide +kernel
theorem dX3_tellCell_24 : decode cX3_tellCell 24 = .ok (.ifCond .eq 13, 3) := by decide +kernel
theorem dX3_tellCell_27 : decode cX3_tellCell 27 = .ok (.aload_n 1, 1) := by decide +kernel
theorem dX3_tellCell_28 : decode cX3_tellCell 28 = .ok (.getfield 62, 3) := by decide +kernel
theorem dX3_tellCell_31 : decode cX3_tellCell 31 = .ok (.iload_n 3, 1) := by decide +kernel
theorem dX3_tellCell_32 : decode cX3_tellCell 32 = .ok (.iload 4, 2) := by decide +kernel
theorem dX3_tellCell_34 : decode cX3_tellCell 34 = .ok (.iastore, 1) := by decide +kernel
theorem dX3_tellCell_35 : decode cX3_tellCell 35 = .ok (.iconst 1, 1) := by decide +kernel
theorem dX3_tellCell_36 : decode cX3_tellCell 36 = .ok (.ireturn, 1) := by decide +kernel
theorem dX3_tellCell_37 : decode cX3_tellCell 37 = .ok (.iload_n 2, 1) := by decide +kernel
theorem dX3_tellCell_38 : decode cX3_tellCell 38 = .ok (.bipush 107, 2) := by decide +kernel
theorem dX3_tellCell_40 : decode cX3_tellCell 40 = .ok (.if_icmp .ne 23, 3) := by decide +kernel
theorem dX3_tellCell_43 : decode cX3_tellCell 43 = .ok (.iload 4, 2) := by decide +kernel
theorem dX3_tellCell_45 : decode cX3_tellCell 45 = .ok (.iconst 0, 1) := by decide +kernel
theorem dX3_tellCell_46 : decode cX3_tellCell 46 = .ok (.iconst 4, 1) := by decide +kernel
theorem dX3_tellCell_47 : decode cX3_tellCell 47 = .ok (.invokestatic 58, 3) := by decide +kernel
theorem dX3_tellCell_50 : decode cX3_tellCell 50 = .ok (.ifCond .eq 13, 3) := by decide +kernel
theorem dX3_tellCell_53 : decode cX3_tellCell 53 = .ok (.aload_n 0, 1) := by decide +kernel
theorem dX3_tellCell_54 : decode cX3_tellCell 54 = .ok (.getfield 66, 3) := by decide +kernel
theorem dX3_tellCell_57 : decode cX3_tellCell 57 = .ok (.iload_n 3, 1) := by decide +kernel
theorem dX3_tellCell_58 : decode cX3_tellCell 58 = .ok (.iload 4, 2) := by decide +kernel
theorem dX3_tellCell_60 : decode cX3_tellCell 60 = .ok (.iastore, 1) := by decide +kernel
theorem dX3_tellCell_61 : decode cX3_tellCell 61 = .ok (.iconst 1, 1) := by decide +kernel
theorem dX3_tellCell_62 : decode cX3_tellCell 62 = .ok (.ireturn, 1) := by decide +kernel
theorem dX3_tellCell_63 : decode cX3_tellCell 63 = .ok (.iload_n 2, 1) := by decide +kernel
theorem dX3_tellCell_64 : decode cX3_tellCell 64 = .ok (.bipush 119, 2) := by decide +kernel
theorem dX3_tellCell_66 : decode cX3_tellCell 66 = .ok (.if_icmp .ne 24, 3) := by decide +kernel
theorem dX3_tellCell_69 : decode cX3_tellCell 69 = .ok (.iload 4, 2) := by decide +kernel
theorem dX3_tellCell_71 : decode cX3_tellCell 71 = .ok (.iconst 0, 1) := by decide +kernel
theorem dX3_tellCell_72 : decode cX3_tellCell 72 = .ok (.bipush 20, 2) := by decide +kernel
theorem dX3_tellCell_74 : decode cX3_tellCell 74 = .ok (.invokestatic 58, 3) := by decide +kernel
theorem dX3_tellCell_77 : decode cX3_tellCell 77 = .ok (.ifCond .eq 13, 3) := by decide +kernel
theorem dX3_tellCell_80 : decode cX3_tellCell 80 = .ok (.aload_n 1, 1) := by decide +kernel
theorem dX3_tellCell_81 : decode cX3_tellCell 81 = .ok (.getfield 69, 3) := by decide +kernel
theorem dX3_tellCell_84 : decode cX3_tellCell 84 = .ok (.iload_n 3, 1) := by decide +kernel
theorem dX3_tellCell_85 : decode cX3_tellCell 85 = .ok (.iload 4, 2) := by decide +kernel
theorem dX3_tellCell_87 : decode cX3_tellCell 87 = .ok (.iastore, 1) := by decide +kernel
theorem dX3_tellCell_88 : decode cX3_tellCell 88 = .ok (.iconst 1, 1) := by decide +kernel
theorem dX3_tellCell_89 : decode cX3_tellCell 89 = .ok (.ireturn, 1) := by decide +kernel
theorem dX3_tellCell_90 : decode cX3_tellCell 90 = .ok (.iconst 0, 1) := by decide +kernel
theorem dX3_tellCell_91 : decode cX3_tellCell 91 = .ok (.ireturn, 1) := by decide +kernel
theorem dX3_finish_0 : decode cX3_finish 0 = .ok (.aload_n 0, 1) := by decide +kernel
theorem dX3_finish_1 : decode cX3_finish 1 = .ok (.invokevirtual 72, 3) := by decide +kernel
theorem dX3_finish_4 : decode cX3_finish 4 = .ok (.iconst 0, 1) := by decide +kernel
theorem dX3_finish_5 : decode cX3_finish 5 = .ok (.istore_n 2, 1) := by decide +kernel
theorem dX3_finish_6 : decode cX3_finish 6 = .ok (.iload_n 2, 1) := by decide +kernel
theorem dX3_finish_7 : decode cX3_finish 7 = .ok (.aload_n 0, 1) := by decide +kernel
theorem dX3_finish_8 : decode cX3_finish 8 = .ok (.getfield 75, 3) := by decide +kernel
theorem dX3_finish_11 : decode cX3_finish 11 = .ok (.if_icmp .ge 30, 3) := by decide +kernel
theorem dX3_finish_14 : decode cX3_finish 14 = .ok (.iload_n 2, 1) := by decide +kernel
theorem dX3_finish_15 : decode cX3_finish 15 = .ok (.bipush 36, 2) := by decide +kernel
theorem dX3_finish_17 : decode cX3_finish 17 = .ok (.if_icmp .ge 24, 3) := by decide +kernel
theorem dX3_finish_20 : decode cX3_finish 20 = .ok (.aload_n 0, 1) := by decide +kernel
theorem dX3_finish_21 : decode cX3_finish 21 = .ok (.iload_n 2, 1) := by decide +kernel
theorem dX3_finish_22 : decode cX3_finish 22 = .ok (.invokevirtual 78, 3) := by decide +kernel
theorem dX3_finish_25 : decode cX3_finish 25 = .ok (.ifCond .ne 10, 3) := by decide +kernel
theorem dX3_finish_28 : decode cX3_finish 28 = .ok (.aload_n 1, 1) := by decide +kernel
theorem dX3_finish_29 : decode cX3_finish 29 = .ok (.getfield 69, 3) := by decide +kernel
theorem dX3_finish_32 : decode cX3_finish 32 = .ok (.iload_n 2, 1) := by decide +kernel
theorem dX3_finish_33 : decode cX3_finish 33 = .ok (.iconst 0, 1) := by decide +kernel
theorem dX3_finish_34 : decode cX3_finish 34 = .ok (.iastore, 1) := by decide +kernel
theorem dX3_finish_35 : decode cX3_finish 35 = .ok (.iinc 2 1, 3) := by decide +kernel
theorem dX3_finish_38 : decode cX3_finish 38 = .ok (.goto (-32), 3) := by decide +kernel
theorem dX3_finish_41 : decode cX3_finish 41 = .ok (.return_, 1) := by decide +kernel
theorem dX3_peek_0 : decode cX3_peek 0 = .ok (.aload_n 0, 1) := by decide +kernel
theorem dX3_peek_1 : decode cX3_peek 1 = .ok (.getfield 19, 3) := by decide +kernel
theorem dX3_peek_4 : decode cX3_peek 4 = .ok (.ifCond .lt 36, 3) := by decide +kernel
theorem dX3_peek_7 : decode cX3_peek 7 = .ok (.aload_n 0, 1) := by decide +kernel
theorem dX3_peek_8 : decode cX3_peek 8 = .ok (.getfield 19, 3) := by decide +kernel
theorem dX3_peek_11 : decode cX3_peek 11 = .ok (.aload_n 0, 1) := by decide +kernel
theorem dX3_peek_12 : decode cX3_peek 12 = .ok (.getfield 15, 3) := by decide +kernel
theorem dX3_peek_15 : decode cX3_peek 15 = .ok (.if_icmp .ge 25, 3) := by decide +kernel
theorem dX3_peek_18 : decode cX3_peek 18 = .ok (.aload_n 0, 1) := by decide +kernel
theorem dX3_peek_19 : decode cX3_peek 19 = .ok (.getfield 19, 3) := by decide +kernel
theorem dX3_peek_22 : decode cX3_peek 22 = .ok (.sipush 200, 3) := by decide +kernel
theorem dX3_peek_25 : decode cX3_peek 25 = .ok (.if_icmp .ge 15, 3) := by decide +kernel
theorem dX3_peek_28 : decode cX3_peek 28 = .ok (.aload_n 0, 1) := by decide +kernel
theorem dX3_peek_29 : decode cX3_peek 29 = .ok (.getfield 9, 3) := by decide +kernel
theorem dX3_peek_32 : decode cX3_peek 32 = .ok (.aload_n 0, 1) := by decide +kernel
theorem dX3_peek_33 : decode cX3_peek 33 = .ok (.getfield 19, 3) := by decide +kernel
theorem dX3_peek_36 : decode cX3_peek 36 = .ok (.caload, 1) := by decide +kernel
theorem dX3_peek_37 : decode cX3_peek 37 = .ok (.goto 5, 3) := by decide +kernel
theorem dX3_peek_40 : decode cX3_peek 40 = .ok (.bipush (-4), 2) := by decide +kernel
theorem dX3_peek_42 : decode cX3_peek 42 = .ok (.ireturn, 1) := by decide +kernel
theorem dX3_nextLetter_0 : decode cX3_nextLetter 0 = .ok (.aload_n 0, 1) := by decide +kernel
theorem dX3_nextLetter_1 : decode cX3_nextLetter 1 = .ok (.invokevirtual 81, 3) := by decide +kernel
theorem dX3_nextLetter_4 : decode cX3_nextLetter 4 = .ok (.istore_n 1, 1) := by decide +kernel
theorem dX3_nextLetter_5 : decode cX3_nextLetter 5 = .ok (.aload_n 0, 1) := by decide +kernel
theorem dX3_nextLetter_6 : decode cX3_nextLetter 6 = .ok (.dup, 1) := by decide +kernel
theorem dX3_nextLetter_7 : decode cX3_nextLetter 7 = .ok (.getfield 19, 3) := by decide +kernel
theorem dX3_nextLetter_10 : decode cX3_nextLetter 10 = .ok (.iconst 1, 1) := by decide +kernel
theorem dX3_nextLetter_11 : decode cX3_nextLetter 11 = .ok (.iadd, 1) := by decide +kernel
theorem dX3_nextLetter_12 : decode cX3_nextLetter 12 = .ok (.putfield 19, 3) := by decide +kernel
theorem dX3_nextLetter_15 : decode cX3_nextLetter 15 = .ok (.iload_n 1, 1) := by decide +kernel
theorem dX3_nextLetter_16 : decode cX3_nextLetter 16 = .ok (.ireturn, 1) := by decide +kernel
theorem dX3_skip_0 : decode cX3_skip 0 = .ok (.aload_n 0, 1) := by decide +kernel
theorem dX3_skip_1 : decode cX3_skip 1 = .ok (.invokevirtual 81, 3) := by decide +kernel
theorem dX3_skip_4 : decode cX3_skip 4 = .ok (.iload_n 1, 1) := by decide +kernel
theorem dX3_skip_5 : decode cX3_skip 5 = .ok (.if_icmp .ne 7, 3) := by decide +kernel
theorem dX3_skip_8 : decode cX3_skip 8 = .ok (.iconst 1, 1) := by decide +kernel
theorem dX3_skip_9 : decode cX3_skip 9 = .ok (.goto 4, 3) := by decide +kernel
theorem dX3_skip_12 : decode cX3_skip 12 = .ok (.iconst 0, 1) := by decide +kernel
theorem dX3_skip_13 : decode cX3_skip 13 = .ok (.istore_n 2, 1) := by decide +kernel
theorem dX3_skip_14 : decode cX3_skip 14 = .ok (.iload_n 2, 1) := by decide +kernel
theorem dX3_skip_15 : decode cX3_skip 15 = .ok (.ifCond .eq 13, 3) := by decide +kernel
theorem dX3_skip_18 : decode cX3_skip 18 = .ok (.aload_n 0, 1) := by decide +kernel
theorem dX3_skip_19 : decode cX3_skip 19 = .ok (.dup, 1) := by decide +kernel
theorem dX3_skip_20 : decode cX3_skip 20 = .ok (.getfield 19, 3) := by decide +kernel
theorem dX3_skip_23 : decode cX3_skip 23 = .ok (.iconst 1, 1) := by decide +kernel
theorem dX3_skip_24 : decode cX3_skip 24 = .ok (.iadd, 1) := by decide +kernel
theorem dX3_skip_25 : decode cX3_skip 25 = .ok (.putfield 19, 3) := by decide +kernel
theorem dX3_skip_28 : decode cX3_skip 28 = .ok (.iload_n 2, 1) := by decide +kernel
theorem dX3_skip_29 : decode cX3_skip 29 = .ok (.ireturn, 1) := by decide +kernel
theorem dX3_nextNumber_0 : decode cX3_nextNumber 0 = .ok (.aload_n 0, 1) := by decide +kernel
theorem dX3_nextNumber_1 : decode cX3_nextNumber 1 = .ok (.invokevirtual 84, 3) := by decide +kernel
theorem dX3_nextNumber_4 : decode cX3_nextNumber 4 = .ok (.istore_n 1, 1) := by decide +kernel
theorem dX3_nextNumber_5 : decode cX3_nextNumber 5 = .ok (.iload_n 1, 1) := by decide +kernel
theorem dX3_nextNumber_6 : decode cX3_nextNumber 6 = .ok (.ifCond .ge 8, 3) := by decide +kernel
theorem dX3_nextNumber_9 : decode cX3_nextNumber 9 = .ok (.bipush (-4), 2) := by decide +kernel
theorem dX3_nextNumber_11 : decode cX3_nextNumber 11 = .ok (.goto 7, 3) := by decide +kernel
theorem dX3_nextNumber_14 : decode cX3_nextNumber 14 = .ok (.aload_n 0, 1) := by decide +kernel
theorem dX3_nextNumber_15 : decode cX3_nextNumber 15 = .ok (.invokevirtual 84, 3) := by decide +kernel
theorem dX3_nextNumber_18 : decode cX3_nextNumber 18 = .ok (.istore_n 2, 1) := by decide +kernel
theorem dX3_nextNumber_19 : decode cX3_nextNumber 19 = .ok (.iload_n 2, 1) := by decide +kernel
theorem dX3_nextNumber_20 : decode cX3_nextNumber 20 = .ok (.ifCond .ge 7, 3) := by decide +kernel
theorem dX3_nextNumber_23 : decode cX3_nextNumber 23 = .ok (.iload_n 1, 1) := by decide +kernel
theorem dX3_nextNumber_24 : decode cX3_nextNumber 24 = .ok (.goto 9, 3) := by decide +kernel
theorem dX3_nextNumber_27 : decode cX3_nextNumber 27 = .ok (.iload_n 1, 1) := by decide +kernel
theorem dX3_nextNumber_28 : decode cX3_nextNumber 28 = .ok (.bipush 10, 2) := by decide +kernel
theorem dX3_nextNumber_30 : decode cX3_nextNumber 30 = .ok (.imul, 1) := by decide +kernel
theorem dX3_nextNumber_31 : decode cX3_nextNumber 31 = .ok (.iload_n 2, 1) := by decide +kernel
theorem dX3_nextNumber_32 : decode cX3_nextNumber 32 = .ok (.iadd, 1) := by decide +kernel
theorem dX3_nextNumber_33 : decode cX3_nextNumber 33 = .ok (.ireturn, 1) := by decide +kernel
theorem dX3_nextFigure_0 : decode cX3_nextFigure 0 = .ok (.aload_n 0, 1) := by decide +kernel
theorem dX3_nextFigure_1 : decode cX3_nextFigure 1 = .ok (.invokevirtual 81, 3) := by decide +kernel
theorem dX3_nextFigure_4 : decode cX3_nextFigure 4 = .ok (.istore_n 1, 1) := by decide +kernel
theorem dX3_nextFigure_5 : decode cX3_nextFigure 5 = .ok (.iload_n 1, 1) := by decide +kernel
theorem dX3_nextFigure_6 : decode cX3_nextFigure 6 = .ok (.bipush 48, 2) := by decide +kernel
theorem dX3_nextFigure_8 : decode cX3_nextFigure 8 = .ok (.bipush 57, 2) := by decide +kernel
theorem dX3_nextFigure_10 : decode cX3_nextFigure 10 = .ok (.invokestatic 58, 3) := by decide +kernel
theorem dX3_nextFigure_13 : decode cX3_nextFigure 13 = .ok (.ifCond .ne 6, 3) := by decide +kernel
theorem dX3_nextFigure_16 : decode cX3_nextFigure 16 = .ok (.bipush (-4), 2) := by decide +kernel
theorem dX3_nextFigure_18 : decode cX3_nextFigure 18 = .ok (.ireturn, 1) := by decide +kernel
theorem dX3_nextFigure_19 : decode cX3_nextFigure 19 = .ok (.aload_n 0, 1) := by decide +kernel
theorem dX3_nextFigure_20 : decode cX3_nextFigure 20 = .ok (.dup, 1) := by decide +kernel
theorem dX3_nextFigure_21 : decode cX3_nextFigure 21 = .ok (.getfield 19, 3) := by decide +kernel
theorem dX3_nextFigure_24 : decode cX3_nextFigure 24 = .ok (.iconst 1, 1) := by decide +kernel
theorem dX3_nextFigure_25 : decode cX3_nextFigure 25 = .ok (.iadd, 1) := by decide +kernel
theorem dX3_nextFigure_26 : decode cX3_nextFigure 26 = .ok (.putfield 19, 3) := by decide +kernel
theorem dX3_nextFigure_29 : decode cX3_nextFigure 29 = .ok (.iload_n 1, 1) := by decide +kernel
theorem dX3_nextFigure_30 : decode cX3_nextFigure 30 = .ok (.bipush 48, 2) := by decide +kernel
theorem dX3_nextFigure_32 : decode cX3_nextFigure 32 = .ok (.isub, 1) := by decide +kernel
theorem dX3_nextFigure_33 : decode cX3_nextFigure 33 = .ok (.ireturn, 1) := by decide +kernel
theorem dX4_init_0 : decode cX4_init 0 = .ok (.aload_n 0, 1) := by decide +kernel
theorem dX4_init_1 : decode cX4_init 1 = .ok (.invokespecial 3, 3) := by decide +kernel
theorem dX4_init_4 : decode cX4_init 4 = .ok (.aload_n 0, 1) := by decide +kernel
theorem dX4_init_5 : decode cX4_init 5 = .ok (.bipush 36, 2) := by decide +kernel
theorem dX4_init_7 : decode cX4_init 7 = .ok (.newarray .int, 2) := by decide +kernel
theorem dX4_init_9 : decode cX4_init 9 = .ok (.putfield 9, 3) := by decide +kernel
theorem dX4_init_12 : decode cX4_init 12 = .ok (.aload_n 0, 1) := by decide +kernel
theorem dX4_init_13 : decode cX4_init 13 = .ok (.bipush 36, 2) := by decide +kernel
theorem dX4_init_15 : decode cX4_init 15 = .ok (.newarray .int, 2) := by decide +kernel
theorem dX4_init_17 : decode cX4_init 17 = .ok (.putfield 15, 3) := by decide +kernel
theorem dX4_init_20 : decode cX4_init 20 = .ok (.aload_n 0, 1) := by decide +kernel
theorem dX4_init_21 : decode cX4_init 21 = .ok (.iconst 0, 1) := by decide +kernel
theorem dX4_init_22 : decode cX4_init 22 = .ok (.putfield 18, 3) := by decide +kernel
theorem dX4_init_25 : decode cX4_init 25 = .ok (.aload_n 0, 1) := by decide +kernel
theorem dX4_init_26 : decode cX4_init 26 = .ok (.lconst 0, 1) := by decide +kernel
theorem dX4_init_27 : decode cX4_init 27 = .ok (.putfield 22, 3) := by decide +kernel
theorem dX4_init_30 : decode cX4_init 30 = .ok (.return_, 1) := by decide +kernel
theorem dX4_makeDry_0 : decode cX4_makeDry 0 = .ok (.aload_n 0, 1) := by decide +kernel
theorem dX4_makeDry_1 : decode cX4_makeDry 1 = .ok (.getfield 9, 3) := by decide +kernel
theorem dX4_makeDry_4 : decode cX4_makeDry 4 = .ok (.iconst 5, 1) := by decide +kernel
theorem dX4_makeDry_5 : decode cX4_makeDry 5 = .ok (.invokestatic 26, 3) := by decide +kernel
theorem dX4_makeDry_8 : decode cX4_makeDry 8 = .ok (.aload_n 0, 1) := by decide +kernel
theorem dX4_makeDry_9 : decode cX4_makeDry 9 = .ok (.getfield 15, 3) := by decide +kernel
theorem dX4_makeDry_12 : decode cX4_makeDry 12 = .ok (.iconst 0, 1) := by decide +kernel
theorem dX4_makeDry_13 : decode cX4_makeDry 13 = .ok (.invokestatic 26, 3) := by decide +kernel
theorem dX4_makeDry_16 : decode cX4_makeDry 16 = .ok (.aload_n 0, 1) := by decide +kernel
theorem dX4_makeDry_17 : decode cX4_makeDry 17 = .ok (.iconst 0, 1) := by decide +kernel
theorem dX4_makeDry_18 : decode cX4_makeDry 18 = .ok (.putfield 18, 3) := by decide +kernel
theorem dX4_makeDry_21 : decode cX4_makeDry 21 = .ok (.return_, 1) := by decide +kernel
theorem dX4_copyFrom_0 : decode cX4_copyFrom 0 = .ok (.aload_n 1, 1) := by decide +kernel
theorem dX4_copyFrom_1 : decode cX4_copyFrom 1 = .ok (.getfield 9, 3) := by decide +kernel
theorem dX4_copyFrom_4 : decode cX4_copyFrom 4 = .ok (.iconst 0, 1) := by decide +kernel
theorem dX4_copyFrom_5 : decode cX4_copyFrom 5 = .ok (.aload_n 0, 1) := by decide +kernel
theorem dX4_copyFrom_6 : decode cX4_copyFrom 6 = .ok (.getfield 9, 3) := by decide +kernel
theorem dX4_copyFrom_9 : decode cX4_copyFrom 9 = .ok (.iconst 0, 1) := by decide +kernel
theorem dX4_copyFrom_10 : decode cX4_copyFrom 10 = .ok (.bipush 36, 2) := by decide +kernel
theorem dX4_copyFrom_12 : decode cX4_copyFrom 12 = .ok (.invokestatic 32, 3) := by decide +kernel
theorem dX4_copyFrom_15 : decode cX4_copyFrom 15 = .ok (.aload_n 1, 1) := by decide +kernel
theorem dX4_copyFrom_16 : decode cX4_copyFrom 16 = .ok (.getfield 15, 3) := by decide +kernel
theorem dX4_copyFrom_19 : decode cX4_copyFrom 19 = .ok (.iconst 0, 1) := by decide +kernel
theorem dX4_copyFrom_20 : decode cX4_copyFrom 20 = .ok (.aload_n 0, 1) := by decide +kernel
theorem dX4_copyFrom_21 : decode cX4_copyFrom 21 = .ok (.getfield 15, 3) := by decide +kernel
theorem dX4_copyFrom_24 : decode cX4_copyFrom 24 = .ok (.iconst 0, 1) := by decide +kernel
theorem dX4_copyFrom_25 : decode cX4_copyFrom 25 = .ok (.bipush 36, 2) := by decide +kernel
theorem dX4_copyFrom_27 : decode cX4_copyFrom 27 = .ok (.invokestatic 32, 3) := by decide +kernel
theorem dX4_copyFrom_30 : decode cX4_copyFrom 30 = .ok (.aload_n 0, 1) := by decide +kernel
theorem dX4_copyFrom_31 : decode cX4_copyFrom 31 = .ok (.aload_n 1, 1) := by decide +kernel
theorem dX4_copyFrom_32 : decode cX4_copyFrom 32 = .ok (.getfield 18, 3) := by decide +kernel
theorem dX4_copyFrom_35 : decode cX4_copyFrom 35 = .ok (.putfield 18, 3) := by decide +kernel
theorem dX4_copyFrom_38 : decode cX4_copyFrom 38 = .ok (.return_, 1) := by decide +kernel
theorem dX4_allDrops_0 : decode cX4_allDrops 0 = .ok (.iconst 0, 1) := by decide +kernel
theorem dX4_allDrops_1 : decode cX4_allDrops 1 = .ok (.istore_n 2, 1) := by decide +kernel
theorem dX4_allDrops_2 : decode cX4_allDrops 2 = .ok (.iconst 0, 1) := by decide +kernel
theorem dX4_allDrops_3 : decode cX4_allDrops 3 = .ok (.istore_n 3, 1) := by decide +kernel
theorem dX4_allDrops_4 : decode cX4_allDrops 4 = .ok (.iload_n 3, 1) := by decide +kernel
theorem dX4_allDrops_5 : decode cX4_allDrops 5 = .ok (.aload_n 1, 1) := by decide +kernel
theorem dX4_allDrops_6 : decode cX4_allDrops 6 = .ok (.getfield 38, 3) := by decide +kernel
theorem dX4_allDrops_9 : decode cX4_allDrops 9 = .ok (.if_icmp .ge 24, 3) := by decide +kernel
theorem dX4_allDrops_12 : decode cX4_allDrops 12 = .ok (.iload_n 3, 1) := by decide +kernel
theorem dX4_allDrops_13 : decode cX4_allDrops 13 = .ok (.bipush 36, 2) := by decide +kernel
theorem dX4_allDrops_15 : decode cX4_allDrops 15 = .ok (.if_icmp .ge 18, 3) := by decide +kernel
theorem dX4_allDrops_18 : decode cX4_allDrops 18 = .ok (.iload_n 2, 1) := by decide +kernel
theorem dX4_allDrops_19 : decode cX4_allDrops 19 = .ok (.aload_n 0, 1) := by decide +kernel
theorem dX4_allDrops_20 : decode cX4_allDrops 20 = .ok (.getfield 15, 3) := by decide +kernel
theorem dX4_allDrops_23 : decode cX4_allDrops 23 = .ok (.iload_n 3, 1) := by decide +kernel
theorem dX4_allDrops_24 : decode cX4_allDrops 24 = .ok (.iaload, 1) := by decide +kernel
theorem dX4_allDrops_25 : decode cX4_allDrops 25 = .ok (.iadd, 1) := by decide +kernel
theorem dX4_allDrops_26 : decode cX4_allDrops 26 = .ok (.istore_n 2, 1) := by decide +kernel
theorem dX4_allDrops_27 : decode cX4_allDrops 27 = .ok (.iinc 3 1, 3) := by decide +kernel
theorem dX4_allDrops_30 : decode cX4_allDrops 30 = .ok (.goto (-26), 3) := by decide +kernel
theorem dX4_allDrops_33 : decode cX4_allDrops 33 = .ok (.iload_n 2, 1) := by decide +kernel
theorem dX4_allDrops_34 : decode cX4_allDrops 34 = .ok (.ireturn, 1) := by decide +kernel
theorem dX4_wetCells_0 : decode cX4_wetCells 0 = .ok (.iconst 0, 1) := by decide +kernel
theorem dX4_wetCells_1 : decode cX4_wetCells 1 = .ok (.istore_n 2, 1) := by decide +kernel
theorem dX4_wetCells_2 : decode cX4_wetCells 2 = .ok (.iconst 0, 1) := by decide +kernel
theorem dX4_wetCells_3 : decode cX4_wetCells 3 = .ok (.istore_n 3, 1) := by decide +kernel
theorem dX4_wetCells_4 : decode cX4_wetCells 4 = .ok (.iload_n 3, 1) := by decide +kernel
theorem dX4_wetCells_5 : decode cX4_wetCells 5 = .ok (.aload_n 1, 1) := by decide +kernel
theorem dX4_wetCells_6 : decode cX4_wetCells 6 = .ok (.getfield 38, 3) := by decide +kernel
theorem dX4_wetCells_9 : decode cX4_wetCells 9 = .ok (.if_icmp .ge 27, 3) := by decide +kernel
theorem dX4_wetCells_12 : decode cX4_wetCells 12 = .ok (.iload_n 3, 1) := by decide +kernel
theorem dX4_wetCells_13 : decode cX4_wetCells 13 = .ok (.bipush 36, 2) := by decide +kernel
theorem dX4_wetCells_15 : decode cX4_wetCells 15 = .ok (.if_icmp .ge 21, 3) := by decide +kernel
theorem dX4_wetCells_18 : decode cX4_wetCells 18 = .ok (.aload_n 0, 1) := by decide +kernel
theorem dX4_wetCells_19 : decode cX4_wetCells 19 = .ok (.getfield 15, 3) := by decide +kernel
theorem dX4_wetCells_22 : decode cX4_wetCells 22 = .ok (.iload_n 3, 1) := by decide +kernel
theorem dX4_wetCells_23 : decode cX4_wetCells 23 = .ok (.iaload, 1) := by decide +kernel
theorem dX4_wetCells_24 : decode cX4_wetCells 24 = .ok (.ifCond .le 6, 3) := by decide +kernel
theorem dX4_wetCells_27 : decode cX4_wetCells 27 = .ok (.iinc 2 1, 3) := by decide +kernel
theorem dX4_wetCells_30 : decode cX4_wetCells 30 = .ok (.iinc 3 1, 3) := by decide +kernel
theorem dX4_wetCells_33 : decode cX4_wetCells 33 = .ok (.goto (-29), 3) := by decide +kernel
theorem dX4_wetCells_36 : decode cX4_wetCells 36 = .ok (.iload_n 2, 1) := by decide +kernel
theorem dX4_wetCells_37 : decode cX4_wetCells 37 = .ok (.ireturn, 1) := by decide +kernel
theorem dX4_wetBits_0 : decode cX4_wetBits 0 = .ok (.lconst 0, 1) := by decide +kernel
theorem dX4_wetBits_1 : decode cX4_wetBits 1 = .ok (.lstore_n 2, 1) := by decide +kernel
theorem dX4_wetBits_2 : decode cX4_wetBits 2 = .ok (.iconst 0, 1) := by decide +kernel
theorem dX4_wetBits_3 : decode cX4_wetBits 3 = .ok (.istore 4, 2) := by decide +kernel
theorem dX4_wetBits_5 : decode cX4_wetBits 5 = .ok (.iload 4, 2) := by decide +kernel
theorem dX4_wetBits_7 : decode cX4_wetBits 7 = .ok (.aload_n 1, 1) := by decide +kernel
theorem dX4_wetBits_8 : decode cX4_wetBits 8 = .ok (.getfield 38, 3) := by decide +kernel
theorem dX4_wetBits_11 : decode cX4_wetBits 11 = .ok (.if_icmp .ge 33, 3) := by decide +kernel
theorem dX4_wetBits_14 : decode cX4_wetBits 14 = .ok (.iload 4, 2) := by decide +kernel
theorem dX4_wetBits_16 : decode cX4_wetBits 16 = .ok (.bipush 36, 2) := by decide +kernel
theorem dX4_wetBits_18 : decode cX4_wetBits 18 = .ok (.if_icmp .ge 26, 3) := by decide +kernel
theorem dX4_wetBits_21 : decode cX4_wetBits 21 = .ok (.aload_n 0, 1) := by decide +kernel
theorem dX4_wetBits_22 : decode cX4_wetBits 22 = .ok (.getfield 15, 3) := by decide +kernel
theorem dX4_wetBits_25 : decode cX4_wetBits 25 = .ok (.iload 4, 2) := by decide +kernel
theorem dX4_wetBits_27 : decode cX4_wetBits 27 = .ok (.iaload, 1) := by decide +kernel
theorem dX4_wetBits_28 : decode cX4_wetBits 28 = .ok (.ifCond .le 10, 3) := by decide +kernel
theorem dX4_wetBits_31 : decode cX4_wetBits 31 = .ok (.lload_n 2, 1) := by decide +kernel
theorem dX4_wetBits_32 : decode cX4_wetBits 32 = .ok (.lconst 1, 1) := by decide +kernel
theorem dX4_wetBits_33 : decode cX4_wetBits 33 = .ok (.iload 4, 2) := by decide +kernel
theorem dX4_wetBits_35 : decode cX4_wetBits 35 = .ok (.lshl, 1) := by decide +kernel
theorem dX4_wetBits_36 : decode cX4_wetBits 36 = .ok (.lor, 1) := by decide +kernel
theorem dX4_wetBits_37 : decode cX4_wetBits 37 = .ok (.lstore_n 2, 1) := by decide +kernel
theorem dX4_wetBits_38 : decode cX4_wetBits 38 = .ok (.iinc 4 1, 3) := by decide +kernel
theorem dX4_wetBits_41 : decode cX4_wetBits 41 = .ok (.goto (-36), 3) := by decide +kernel
theorem dX4_wetBits_44 : decode cX4_wetBits 44 = .ok (.lload_n 2, 1) := by decide +kernel
theorem dX4_wetBits_45 : decode cX4_wetBits 45 = .ok (.lreturn, 1) := by decide +kernel
theorem dX4_firstWet_0 : decode cX4_firstWet 0 = .ok (.iconst 0, 1) := by decide +kernel
theorem dX4_firstWet_1 : decode cX4_firstWet 1 = .ok (.istore_n 2, 1) := by decide +kernel
theorem dX4_firstWet_2 : decode cX4_firstWet 2 = .ok (.iload_n 2, 1) := by decide +kernel
theorem dX4_firstWet_3 : decode cX4_firstWet 3 = .ok (.aload_n 1, 1) := by decide +kernel
theorem dX4_firstWet_4 : decode cX4_firstWet 4 = .ok (.getfield 38, 3) := by decide +kernel
theorem dX4_firstWet_7 : decode cX4_firstWet 7 = .ok (.if_icmp .ge 26, 3) := by decide +kernel
theorem dX4_firstWet_10 : decode cX4_firstWet 10 = .ok (.iload_n 2, 1) := by decide +kernel
theorem dX4_firstWet_11 : decode cX4_firstWet 11 = .ok (.bipush 36, 2) := by decide +kernel
theorem dX4_firstWet_13 : decode cX4_firstWet 13 = .ok (.if_icmp .ge 20, 3) := by decide +kernel
theorem dX4_firstWet_16 : decode cX4_firstWet 16 = .ok (.aload_n 0, 1) := by decide +kernel
theorem dX4_firstWet_17 : decode cX4_firstWet 17 = .ok (.getfield 15, 3) := by decide +kernel
theorem dX4_firstWet_20 : decode cX4_firstWet 20 = .ok (.iload_n 2, 1) := by decide +kernel
theorem dX4_firstWet_21 : decode cX4_firstWet 21 = .ok (.iaload, 1) := by decide +kernel
theorem dX4_firstWet_22 : decode cX4_firstWet 22 = .ok (.ifCond .le 5, 3) := by decide +kernel
theorem dX4_firstWet_25 : decode cX4_firstWet 25 = .ok (.iload_n 2, 1) := by decide +kernel
theorem dX4_firstWet_26 : decode cX4_firstWet 26 = .ok (.ireturn, 1) := by decide +kernel
theorem dX4_firstWet_27 : decode cX4_firstWet 27 = .ok (.iinc 2 1, 3) := by decide +kernel
theorem dX4_firstWet_30 : decode cX4_firstWet 30 = .ok (.goto (-28), 3) := by decide +kernel
theorem dX4_firstWet_33 : decode cX4_firstWet 33 = .ok (.bipush (-4), 2) := by decide +kernel
theorem dX4_firstWet_35 : decode cX4_firstWet 35 = .ok (.ireturn, 1) := by decide +kernel
theorem dX4_pour_0 : decode cX4_pour 0 = .ok (.iconst 0, 1) := by decide +kernel
theorem dX4_pour_1 : decode cX4_pour 1 = .ok (.istore_n 3, 1) := by decide +kernel
theorem dX4_pour_2 : decode cX4_pour 2 = .ok (.iload_n 3, 1) := by decide +kernel
theorem dX4_pour_3 : decode cX4_pour 3 = .ok (.aload_n 1, 1) := by decide +kernel
theorem dX4_pour_4 : decode cX4_pour 4 = .ok (.getfield 38, 3) := by decide +kernel
theorem dX4_pour_7 : decode cX4_pour 7 = .ok (.if_icmp .ge 42, 3) := by decide +kernel
theorem dX4_pour_10 : decode cX4_pour 10 = .ok (.iload_n 3, 1) := by decide +kernel
theorem dX4_pour_11 : decode cX4_pour 11 = .ok (.bipush 36, 2) := by decide +kernel
theorem dX4_pour_13 : decode cX4_pour 13 = .ok (.if_icmp .ge 36, 3) := by decide +kernel
theorem dX4_pour_16 : decode cX4_pour 16 = .ok (.aload_n 1, 1) := by decide +kernel
theorem dX4_pour_17 : decode cX4_pour 17 = .ok (.iload_n 3, 1) := by decide +kernel
theorem dX4_pour_18 : decode cX4_pour 18 = .ok (.invokevirtual 43, 3) := by decide +kernel
theorem dX4_pour_21 : decode cX4_pour 21 = .ok (.ifCond .eq 22, 3) := by decide +kernel
theorem dX4_pour_24 : decode cX4_pour 24 = .ok (.aload_n 0, 1) := by decide +kernel
theorem dX4_pour_25 : decode cX4_pour 25 = .ok (.getfield 15, 3) := by decide +kernel
theorem dX4_pour_28 : decode cX4_pour 28 = .ok (.iload_n 3, 1) := by decide +kernel
theorem dX4_pour_29 : decode cX4_pour 29 = .ok (.bipush 60, 2) := by decide +kernel
theorem dX4_pour_31 : decode cX4_pour 31 = .ok (.aload_n 0, 1) := by decide +kernel
theorem dX4_pour_32 : decode cX4_pour 32 = .ok (.getfield 15, 3) := by decide +kernel
theorem dX4_pour_35 : decode cX4_pour 35 = .ok (.iload_n 3, 1) := by decide +kernel
theorem dX4_pour_36 : decode cX4_pour 36 = .ok (.iaload, 1) := by decide +kernel
theorem dX4_pour_37 : decode cX4_pour 37 = .ok (.iload_n 2, 1) := by decide +kernel
theorem dX4_pour_38 : decode cX4_pour 38 = .ok (.iadd, 1) := by decide +kernel
theorem dX4_pour_39 : decode cX4_pour 39 = .ok (.invokestatic 47, 3) := by decide +kernel
theorem dX4_pour_42 : decode cX4_pour 42 = .ok (.iastore, 1) := by decide +kernel
theorem dX4_pour_43 : decode cX4_pour 43 = .ok (.iinc 3 1, 3) := by decide +kernel
theorem dX4_pour_46 : decode cX4_pour 46 = .ok (.goto (-44), 3) := by decide +kernel
theorem dX4_pour_49 : decode cX4_pour 49 = .ok (.aload_n 0, 1) := by decide +kernel
theorem dX4_pour_50 : decode cX4_pour 50 = .ok (.aload_n 1, 1) := by decide +kernel
theorem dX4_pour_51 : decode cX4_pour 51 = .ok (.invokevirtual 53, 3) := by decide +kernel
theorem dX4_pour_54 : decode cX4_pour 54 = .ok (.return_, 1) := by decide +kernel
theorem dX4_passHours_0 : decode cX4_passHours 0 = .ok (.iconst 0, 1) := by decide +kernel
theorem dX4_passHours_1 : decode cX4_passHours 1 = .ok (.istore_n 3, 1) := by decide +kernel
theorem dX4_passHours_2 : decode cX4_passHours 2 = .ok (.iload_n 3, 1) := by decide +kernel
theorem dX4_passHours_3 : decode cX4_passHours 3 = .ok (.iload_n 2, 1) := by decide +kernel
theorem dX4_passHours_4 : decode cX4_passHours 4 = .ok (.if_icmp .ge 14, 3) := by decide +kernel
theorem dX4_passHours_7 : decode cX4_passHours 7 = .ok (.aload_n 0, 1) := by decide +kernel
theorem dX4_passHours_8 : decode cX4_passHours 8 = .ok (.aload_n 1, 1) := by decide +kernel
theorem dX4_passHours_9 : decode cX4_passHours 9 = .ok (.invokevirtual 57, 3) := by decide +kernel
theorem dX4_passHours_12 : decode cX4_passHours 12 = .ok (.iinc 3 1, 3) := by decide +kernel
theorem dX4_passHours_15 : decode cX4_passHours 15 = .ok (.goto (-13), 3) := by decide +kernel
theorem dX4_passHours_18 : decode cX4_passHours 18 = .ok (.return_, 1) := by decide +kernel
theorem dX4_passHour_0 : decode cX4_passHour 0 = .ok (.aload_n 0, 1) := by decide +kernel
theorem dX4_passHour_1 : decode cX4_passHour 1 = .ok (.dup, 1) := by decide +kernel
theorem dX4_passHour_2 : decode cX4_passHour 2 = .ok (.getfield 18, 3) := by decide +kernel
theorem dX4_passHour_5 : decode cX4_passHour 5 = .ok (.iconst 1, 1) := by decide +kernel
theorem dX4_passHour_6 : decode cX4_passHour 6 = .ok (.iadd, 1) := by decide +kernel
theorem dX4_passHour_7 : decode cX4_passHour 7 = .ok (.putfield 18, 3) := by decide +kernel
theorem dX4_passHour_10 : decode cX4_passHour 10 = .ok (.aload_n 0, 1) := by decide +kernel
theorem dX4_passHour_11 : decode cX4_passHour 11 = .ok (.getfield 18, 3) := by decide +kernel
theorem dX4_passHour_14 : decode cX4_passHour 14 = .ok (.iconst 2, 1) := by decide +kernel
theorem dX4_passHour_15 : decode cX4_passHour 15 = .ok (.irem, 1) := by decide +kernel
theorem dX4_passHour_16 : decode cX4_passHour 16 = .ok (.ifCond .ne 7, 3) := by decide +kernel
theorem dX4_passHour_19 : decode cX4_passHour 19 = .ok (.iconst 1, 1) := by decide +kernel
theorem dX4_passHour_20 : decode cX4_passHour 20 = .ok (.goto 4, 3) := by decide +kernel
theorem dX4_passHour_23 : decode cX4_passHour 23 = .ok (.iconst 0, 1) := by decide +kernel
theorem dX4_passHour_24 : decode cX4_passHour 24 = .ok (.istore_n 2, 1) := by decide +kernel
theorem dX4_passHour_25 : decode cX4_passHour 25 = .ok (.iconst 0, 1) := by decide +kernel
theorem dX4_passHour_26 : decode cX4_passHour 26 = .ok (.istore_n 3, 1) := by decide +kernel
theorem dX4_passHour_27 : decode cX4_passHour 27 = .ok (.iload_n 3, 1) := by decide +kernel
theorem dX4_passHour_28 : decode cX4_passHour 28 = .ok (.aload_n 1, 1) := by decide +kernel
theorem dX4_passHour_29 : decode cX4_passHour 29 = .ok (.getfield 38, 3) := by decide +kernel
theorem dX4_passHour_32 : decode cX4_passHour 32 = .ok (.if_icmp .ge 62, 3) := by decide +kernel
theorem dX4_passHour_35 : decode cX4_passHour 35 = .ok (.iload_n 3, 1) := by decide +kernel
theorem dX4_passHour_36 : decode cX4_passHour 36 = .ok (.bipush 36, 2) := by decide +kernel
theorem dX4_passHour_38 : decode cX4_passHour 38 = .ok (.if_icmp .ge 56, 3) := by decide +kernel
theorem dX4_passHour_41 : decode cX4_passHour 41 = .ok (.aload_n 0, 1) := by decide +kernel
theorem dX4_passHour_42 : decode cX4_passHour 42 = .ok (.getfield 15, 3) := by decide +kernel
theorem dX4_passHour_45 : decode cX4_passHour 45 = .ok (.iload_n 3, 1) := by decide +kernel
theorem dX4_passHour_46 : decode cX4_passHour 46 = .ok (.iaload, 1) := by decide +kernel
theorem dX4_passHour_47 : decode cX4_passHour 47 = .ok (.ifCond .le 26, 3) := by decide +kernel
theorem dX4_passHour_50 : decode cX4_passHour 50 = .ok (.iload_n 2, 1) := by decide +kernel
theorem dX4_passHour_51 : decode cX4_passHour 51 = .ok (.ifCond .ne 12, 3) := by decide +kernel
theorem dX4_passHour_54 : decode cX4_passHour 54 = .ok (.aload_n 1, 1) := by decide +kernel
theorem dX4_passHour_55 : decode cX4_passHour 55 = .ok (.iload_n 3, 1) := by decide +kernel
theorem dX4_passHour_56 : decode cX4_passHour 56 = .ok (.iconst 1, 1) := by decide +kernel
theorem dX4_passHour_57 : decode cX4_passHour 57 = .ok (.invokevirtual 60, 3) := by decide +kernel
theorem dX4_passHour_60 : decode cX4_passHour 60 = .ok (.ifCond .ne 13, 3) := by decide +kernel
theorem dX4_passHour_63 : decode cX4_passHour 63 = .ok (.aload_n 0, 1) := by decide +kernel
theorem dX4_passHour_64 : decode cX4_passHour 64 = .ok (.getfield 15, 3) := by decide +kernel
theorem dX4_passHour_67 : decode cX4_passHour 67 = .ok (.iload_n 3, 1) := by decide +kernel
theorem dX4_passHour_68 : decode cX4_passHour 68 = .ok (.dup2, 1) := by decide +kernel
theorem dX4_passHour_69 : decode cX4_passHour 69 = .ok (.iaload, 1) := by decide +kernel
theorem dX4_passHour_70 : decode cX4_passHour 70 = .ok (.iconst 1, 1) := by decide +kernel
theorem dX4_passHour_71 : decode cX4_passHour 71 = .ok (.isub, 1) := by decide +kernel
theorem dX4_passHour_72 : decode cX4_passHour 72 = .ok (.iastore, 1) := by decide +kernel
theorem dX4_passHour_73 : decode cX4_passHour 73 = .ok (.aload_n 1, 1) := by decide +kernel
theorem dX4_passHour_74 : decode cX4_passHour 74 = .ok (.iload_n 3, 1) := by decide +kernel
theorem dX4_passHour_75 : decode cX4_passHour 75 = .ok (.iconst 4, 1) := by decide +kernel
theorem dX4_passHour_76 : decode cX4_passHour 76 = .ok (.invokevirtual 60, 3) := by decide +kernel
theorem dX4_passHour_79 : decode cX4_passHour 79 = .ok (.ifCond .eq 9, 3) := by decide +kernel
theorem dX4_passHour_82 : decode cX4_passHour 82 = .ok (.aload_n 0, 1) := by decide +kernel
theorem dX4_passHour_83 : decode cX4_passHour 83 = .ok (.aload_n 1, 1) := by decide +kernel
theorem dX4_passHour_84 : decode cX4_passHour 84 = .ok (.iload_n 3, 1) := by decide +kernel
theorem dX4_passHour_85 : decode cX4_passHour 85 = .ok (.invokevirtual 64, 3) := by decide +kernel
theorem dX4_passHour_88 : decode cX4_passHour 88 = .ok (.iinc 3 1, 3) := by decide +kernel
theorem dX4_passHour_91 : decode cX4_passHour 91 = .ok (.goto (-64), 3) := by decide +kernel
theorem dX4_passHour_94 : decode cX4_passHour 94 = .ok (.aload_n 0, 1) := by decide +kernel
theorem dX4_passHour_95 : decode cX4_passHour 95 = .ok (.aload_n 1, 1) := by decide +kernel
theorem dX4_passHour_96 : decode cX4_passHour 96 = .ok (.invokevirtual 53, 3) := by decide +kernel
theorem dX4_passHour_99 : decode cX4_passHour 99 = .ok (.return_, 1) := by decide +kernel
theorem dX4_stepInto_0 : decode cX4_stepInto 0 = .ok (.iconst 0, 1) := by decide +kernel
theorem dX4_stepInto_1 : decode cX4_stepInto 1 = .ok (.istore_n 3, 1) := by decide +kernel
theorem dX4_stepInto_2 : decode cX4_stepInto 2 = .ok (.iload_n 3, 1) := by decide +kernel
theorem dX4_stepInto_3 : decode cX4_stepInto 3 = .ok (.iconst 4, 1) := by decide +kernel
theorem dX4_stepInto_4 : decode cX4_stepInto 4 = .ok (.if_icmp .ge 60, 3) := by decide +kernel
theorem dX4_stepInto_7 : decode cX4_stepInto 7 = .ok (.aload_n 1, 1) := by decide +kernel
theorem dX4_stepInto_8 : decode cX4_stepInto 8 = .ok (.iload_n 2, 1) := by decide +kernel
theorem dX4_stepInto_9 : decode cX4_stepInto 9 = .ok (.iload_n 3, 1) := by decide +kernel
theorem dX4_stepInto_10 : decode cX4_stepInto 10 = .ok (.invokevirtual 68, 3) := by decide +kernel
theorem dX4_stepInto_13 : decode cX4_stepInto 13 = .ok (.istore 4, 2) := by decide +kernel
theorem dX4_stepInto_15 : decode cX4_stepInto 15 = .ok (.aload_n 1, 1) := by decide +kernel
theorem dX4_stepInto_16 : decode cX4_stepInto 16 = .ok (.iload 4, 2) := by decide +kernel
theorem dX4_stepInto_18 : decode cX4_stepInto 18 = .ok (.invokevirtual 71, 3) := by decide +kernel
theorem dX4_stepInto_21 : decode cX4_stepInto 21 = .ok (.ifCond .eq 37, 3) := by decide +kernel
theorem dX4_stepInto_24 : decode cX4_stepInto 24 = .ok (.aload_n 1, 1) := by decide +kernel
theorem dX4_stepInto_25 : decode cX4_stepInto 25 = .ok (.iload_n 2, 1) := by decide +kernel
theorem dX4_stepInto_26 : decode cX4_stepInto 26 = .ok (.invokevirtual 71, 3) := by decide +kernel
theorem dX4_stepInto_29 : decode cX4_stepInto 29 = .ok (.ifCond .eq 29, 3) := by decide +kernel
theorem dX4_stepInto_32 : decode cX4_stepInto 32 = .ok (.aload_n 0, 1) := by decide +kernel
theorem dX4_stepInto_33 : decode cX4_stepInto 33 = .ok (.getfield 15, 3) := by decide +kernel
theorem dX4_stepInto_36 : decode cX4_stepInto 36 = .ok (.iload_n 2, 1) := by decide +kernel
theorem dX4_stepInto_37 : decode cX4_stepInto 37 = .ok (.iaload, 1) := by decide +kernel
theorem dX4_stepInto_38 : decode cX4_stepInto 38 = .ok (.ifCond .le 20, 3) := by decide +kernel
theorem dX4_stepInto_41 : decode cX4_stepInto 41 = .ok (.aload_n 0, 1) := by decide +kernel
theorem dX4_stepInto_42 : decode cX4_stepInto 42 = .ok (.getfield 15, 3) := by decide +kernel
theorem dX4_stepInto_45 : decode cX4_stepInto 45 = .ok (.iload_n 2, 1) := by decide +kernel
theorem dX4_stepInto_46 : decode cX4_stepInto 46 = .ok (.dup2, 1) := by decide +kernel
theorem dX4_stepInto_47 : decode cX4_stepInto 47 = .ok (.iaload, 1) := by decide +kernel
theorem dX4_stepInto_48 : decode cX4_stepInto 48 = .ok (.iconst 1, 1) := by decide +kernel
theorem dX4_stepInto_49 : decode cX4_stepInto 49 = .ok (.isub, 1) := by decide +kernel
theorem dX4_stepInto_50 : decode cX4_stepInto 50 = .ok (.iastore, 1) := by decide +kernel
theorem dX4_stepInto_51 : decode cX4_stepInto 51 = .ok (.aload_n 0, 1) := by decide +kernel
theorem dX4_stepInto_52 : decode cX4_stepInto 52 = .ok (.aload_n 1, 1) := by decide +kernel
theorem dX4_stepInto_53 : decode cX4_stepInto 53 = .ok (.iload 4, 2) := by decide +kernel
theorem dX4_stepInto_55 : decode cX4_stepInto 55 = .ok (.invokevirtual 64, 3) := by decide +kernel
theorem dX4_stepInto_58 : decode cX4_stepInto 58 = .ok (.iinc 3 1, 3) := by decide +kernel
theorem dX4_stepInto_61 : decode cX4_stepInto 61 = .ok (.goto (-59), 3) := by decide +kernel
theorem dX4_stepInto_64 : decode cX4_stepInto 64 = .ok (.aload_n 0, 1) := by decide +kernel
theorem dX4_stepInto_65 : decode cX4_stepInto 65 = .ok (.aload_n 1, 1) := by decide +kernel
theorem dX4_stepInto_66 : decode cX4_stepInto 66 = .ok (.invokevirtual 53, 3) := by decide +kernel
theorem dX4_stepInto_69 : decode cX4_stepInto 69 = .ok (.return_, 1) := by decide +kernel
theorem dX4_putDrop_0 : decode cX4_putDrop 0 = .ok (.aload_n 1, 1) := by decide +kernel
theorem dX4_putDrop_1 : decode cX4_putDrop 1 = .ok (.iload_n 2, 1) := by decide +kernel
theorem dX4_putDrop_2 : decode cX4_putDrop 2 = .ok (.invokevirtual 43, 3) := by decide +kernel
theorem dX4_putDrop_5 : decode cX4_putDrop 5 = .ok (.ifCond .eq 24, 3) := by decide +kernel
theorem dX4_putDrop_8 : decode cX4_putDrop 8 = .ok (.aload_n 0, 1) := by decide +kernel
theorem dX4_putDrop_9 : decode cX4_putDrop 9 = .ok (.getfield 15, 3) := by decide +kernel
theorem dX4_putDrop_12 : decode cX4_putDrop 12 = .ok (.iload_n 2, 1) := by decide +kernel
theorem dX4_putDrop_13 : decode cX4_putDrop 13 = .ok (.iaload, 1) := by decide +kernel
theorem dX4_putDrop_14 : decode cX4_putDrop 14 = .ok (.bipush 60, 2) := by decide +kernel
theorem dX4_putDrop_16 : decode cX4_putDrop 16 = .ok (.if_icmp .ge 13, 3) := by decide +kernel
theorem dX4_putDrop_19 : decode cX4_putDrop 19 = .ok (.aload_n 0, 1) := by decide +kernel
theorem dX4_putDrop_20 : decode cX4_putDrop 20 = .ok (.getfield 15, 3) := by decide +kernel
theorem dX4_putDrop_23 : decode cX4_putDrop 23 = .ok (.iload_n 2, 1) := by decide +kernel
theorem dX4_putDrop_24 : decode cX4_putDrop 24 = .ok (.dup2, 1) := by decide +kernel
theorem dX4_putDrop_25 : decode cX4_putDrop 25 = .ok (.iaload, 1) := by decide +kernel
theorem dX4_putDrop_26 : decode cX4_putDrop 26 = .ok (.iconst 1, 1) := by decide +kernel
theorem dX4_putDrop_27 : decode cX4_putDrop 27 = .ok (.iadd, 1) := by decide +kernel
theorem dX4_putDrop_28 : decode cX4_putDrop 28 = .ok (.iastore, 1) := by decide +kernel
theorem dX4_putDrop_29 : decode cX4_putDrop 29 = .ok (.return_, 1) := by decide +kernel
theorem dX4_flow_0 : decode cX4_flow 0 = .ok (.aload_n 0, 1) := by decide +kernel
theorem dX4_flow_1 : decode cX4_flow 1 = .ok (.aload_n 0, 1) := by decide +kernel
theorem dX4_flow_2 : decode cX4_flow 2 = .ok (.aload_n 1, 1) := by decide +kernel
theorem dX4_flow_3 : decode cX4_flow 3 = .ok (.invokevirtual 74, 3) := by decide +kernel
theorem dX4_flow_6 : decode cX4_flow 6 = .ok (.putfield 22, 3) := by decide +kernel
theorem dX4_flow_9 : decode cX4_flow 9 = .ok (.iconst 0, 1) := by decide +kernel
theorem dX4_flow_10 : decode cX4_flow 10 = .ok (.istore_n 2, 1) := by decide +kernel
theorem dX4_flow_11 : decode cX4_flow 11 = .ok (.aload_n 0, 1) := by decide +kernel
theorem dX4_flow_12 : decode cX4_flow 12 = .ok (.getfield 22, 3) := by decide +kernel
theorem dX4_flow_15 : decode cX4_flow 15 = .ok (.lconst 0, 1) := by decide +kernel
theorem dX4_flow_16 : decode cX4_flow 16 = .ok (.lcmp, 1) := by decide +kernel
theorem dX4_flow_17 : decode cX4_flow 17 = .ok (.ifCond .eq 56, 3) := by decide +kernel
theorem dX4_flow_20 : decode cX4_flow 20 = .ok (.iload_n 2, 1) := by decide +kernel
theorem dX4_flow_21 : decode cX4_flow 21 = .ok (.ldc 78, 2) := by decide +kernel
theorem dX4_flow_23 : decode cX4_flow 23 = .ok (.if_icmp .ge 50, 3) := by decide +kernel
theorem dX4_flow_26 : decode cX4_flow 26 = .ok (.iconst 0, 1) := by decide +kernel
theorem dX4_flow_27 : decode cX4_flow 27 = .ok (.istore_n 3, 1) := by decide +kernel
theorem dX4_flow_28 : decode cX4_flow 28 = .ok (.iload_n 3, 1) := by decide +kernel
theorem dX4_flow_29 : decode cX4_flow 29 = .ok (.aload_n 1, 1) := by decide +kernel
theorem dX4_flow_30 : decode cX4_flow 30 = .ok (.getfield 38, 3) := by decide +kernel
theorem dX4_flow_33 : decode cX4_flow 33 = .ok (.if_icmp .ge 34, 3) := by decide +kernel
theorem dX4_flow_36 : decode cX4_flow 36 = .ok (.iload_n 3, 1) := by decide +kernel
theorem dX4_flow_37 : decode cX4_flow 37 = .ok (.bipush 36, 2) := by decide +kernel
theorem dX4_flow_39 : decode cX4_flow 39 = .ok (.if_icmp .ge 28, 3) := by decide +kernel
theorem dX4_flow_42 : decode cX4_flow 42 = .ok (.aload_n 0, 1) := by decide +kernel
theorem dX4_flow_43 : decode cX4_flow 43 = .ok (.getfield 22, 3) := by decide +kernel
theorem dX4_flow_46 : decode cX4_flow 46 = .ok (.iload_n 3, 1) := by decide +kernel
theorem dX4_flow_47 : decode cX4_flow 47 = .ok (.lshr, 1) := by decide +kernel
theorem dX4_flow_48 : decode cX4_flow 48 = .ok (.lconst 1, 1) := by decide +kernel
theorem dX4_flow_49 : decode cX4_flow 49 = .ok (.land, 1) := by decide +kernel
theorem dX4_flow_50 : decode cX4_flow 50 = .ok (.lconst 1, 1) := by decide +kernel
theorem dX4_flow_51 : decode cX4_flow 51 = .ok (.lcmp, 1) := by decide +kernel
theorem dX4_flow_52 : decode cX4_flow 52 = .ok (.ifCond .ne 9, 3) := by decide +kernel
theorem dX4_flow_55 : decode cX4_flow 55 = .ok (.aload_n 0, 1) := by decide +kernel
theorem dX4_flow_56 : decode cX4_flow 56 = .ok (.aload_n 1, 1) := by decide +kernel
theorem dX4_flow_57 : decode cX4_flow 57 = .ok (.iload_n 3, 1) := by decide +kernel
theorem dX4_flow_58 : decode cX4_flow 58 = .ok (.invokevirtual 79, 3) := by decide +kernel
theorem dX4_flow_61 : decode cX4_flow 61 = .ok (.iinc 3 1, 3) := by decide +kernel
theorem dX4_flow_64 : decode cX4_flow 64 = .ok (.goto (-36), 3) := by decide +kernel
theorem dX4_flow_67 : decode cX4_flow 67 = .ok (.iinc 2 1, 3) := by decide +kernel
theorem dX4_flow_70 : decode cX4_flow 70 = .ok (.goto (-59), 3) := by decide +kernel
theorem dX4_flow_73 : decode cX4_flow 73 = .ok (.return_, 1) := by decide +kernel
theorem dX4_flowFrom_0 : decode cX4_flowFrom 0 = .ok (.aload_n 0, 1) := by decide +kernel
theorem dX4_flowFrom_1 : decode cX4_flowFrom 1 = .ok (.aload_n 1, 1) := by decide +kernel
theorem dX4_flowFrom_2 : decode cX4_flowFrom 2 = .ok (.iload_n 2, 1) := by decide +kernel
theorem dX4_flowFrom_3 : decode cX4_flowFrom 3 = .ok (.invokevirtual 82, 3) := by decide +kernel
theorem dX4_flowFrom_6 : decode cX4_flowFrom 6 = .ok (.istore_n 3, 1) := by decide +kernel
theorem dX4_flowFrom_7 : decode cX4_flowFrom 7 = .ok (.iload_n 3, 1) := by decide +kernel
theorem dX4_flowFrom_8 : decode cX4_flowFrom 8 = .ok (.bipush (-4), 2) := by decide +kernel
theorem dX4_flowFrom_10 : decode cX4_flowFrom 10 = .ok (.if_icmp .ne 22, 3) := by decide +kernel
theorem dX4_flowFrom_13 : decode cX4_flowFrom 13 = .ok (.aload_n 0, 1) := by decide +kernel
theorem dX4_flowFrom_14 : decode cX4_flowFrom 14 = .ok (.dup, 1) := by decide +kernel
theorem dX4_flowFrom_15 : decode cX4_flowFrom 15 = .ok (.getfield 22, 3) := by decide +kernel
theorem dX4_flowFrom_18 : decode cX4_flowFrom 18 = .ok (.lconst 1, 1) := by decide +kernel
theorem dX4_flowFrom_19 : decode cX4_flowFrom 19 = .ok (.iload_n 2, 1) := by decide +kernel
theorem dX4_flowFrom_20 : decode cX4_flowFrom 20 = .ok (.lshl, 1) := by decide +kernel
theorem dX4_flowFrom_21 : decode cX4_flowFrom 21 = .ok (.ldc2_w 86, 3) := by decide +kernel
theorem dX4_flowFrom_24 : decode cX4_flowFrom 24 = .ok (.lxor, 1) := by decide +kernel
theorem dX4_flowFrom_25 : decode cX4_flowFrom 25 = .ok (.land, 1) := by decide +kernel
theorem dX4_flowFrom_26 : decode cX4_flowFrom 26 = .ok (.putfield 22, 3) := by decide +kernel
theorem dX4_flowFrom_29 : decode cX4_flowFrom 29 = .ok (.goto 33, 3) := by decide +kernel
theorem dX4_flowFrom_32 : decode cX4_flowFrom 32 = .ok (.aload_n 0, 1) := by decide +kernel
theorem dX4_flowFrom_33 : decode cX4_flowFrom 33 = .ok (.getfield 15, 3) := by decide +kernel
theorem dX4_flowFrom_36 : decode cX4_flowFrom 36 = .ok (.iload_n 2, 1) := by decide +kernel
theorem dX4_flowFrom_37 : decode cX4_flowFrom 37 = .ok (.dup2, 1) := by decide +kernel
theorem dX4_flowFrom_38 : decode cX4_flowFrom 38 = .ok (.iaload, 1) := by decide +kernel
theorem dX4_flowFrom_39 : decode cX4_flowFrom 39 = .ok (.iconst 1, 1) := by decide +kernel
theorem dX4_flowFrom_40 : decode cX4_flowFrom 40 = .ok (.isub, 1) := by decide +kernel
theorem dX4_flowFrom_41 : decode cX4_flowFrom 41 = .ok (.iastore, 1) := by decide +kernel
theorem dX4_flowFrom_42 : decode cX4_flowFrom 42 = .ok (.aload_n 0, 1) := by decide +kernel
theorem dX4_flowFrom_43 : decode cX4_flowFrom 43 = .ok (.aload_n 1, 1) := by decide +kernel
theorem dX4_flowFrom_44 : decode cX4_flowFrom 44 = .ok (.iload_n 3, 1) := by decide +kernel
theorem dX4_flowFrom_45 : decode cX4_flowFrom 45 = .ok (.invokevirtual 64, 3) := by decide +kernel
theorem dX4_flowFrom_48 : decode cX4_flowFrom 48 = .ok (.aload_n 0, 1) := by decide +kernel
theorem dX4_flowFrom_49 : decode cX4_flowFrom 49 = .ok (.dup, 1) := by decide +kernel
theorem dX4_flowFrom_50 : decode cX4_flowFrom 50 = .ok (.getfield 22, 3) := by decide +kernel
theorem dX4_flowFrom_53 : decode cX4_flowFrom 53 = .ok (.aload_n 1, 1) := by decide +kernel
theorem dX4_flowFrom_54 : decode cX4_flowFrom 54 = .ok (.iload_n 2, 1) := by decide +kernel
theorem dX4_flowFrom_55 : decode cX4_flowFrom 55 = .ok (.invokevirtual 88, 3) := by decide +kernel
theorem dX4_flowFrom_58 : decode cX4_flowFrom 58 = .ok (.lor, 1) := by decide +kernel
theorem dX4_flowFrom_59 : decode cX4_flowFrom 59 = .ok (.putfield 22, 3) := by decide +kernel
theorem dX4_flowFrom_62 : decode cX4_flowFrom 62 = .ok (.return_, 1) := by decide +kernel
theorem dX4_whereTo_0 : decode cX4_whereTo 0 = .ok (.iload_n 2, 1) := by decide +kernel
theorem dX4_whereTo_1 : decode cX4_whereTo 1 = .ok (.iconst 4, 1) := by decide +kernel
theorem dX4_whereTo_2 : decode cX4_whereTo 2 = .ok (.imul, 1) := by decide +kernel
theorem dX4_whereTo_3 : decode cX4_whereTo 3 = .ok (.istore_n 3, 1) := by decide +kernel
theorem dX4_whereTo_4 : decode cX4_whereTo 4 = .ok (.aload_n 1, 1) := by decide +kernel
theorem dX4_whereTo_5 : decode cX4_whereTo 5 = .ok (.iload_n 2, 1) := by decide +kernel
theorem dX4_whereTo_6 : decode cX4_whereTo 6 = .ok (.invokevirtual 71, 3) := by decide +kernel
theorem dX4_whereTo_9 : decode cX4_whereTo 9 = .ok (.ifCond .eq 23, 3) := by decide +kernel
theorem dX4_whereTo_12 : decode cX4_whereTo 12 = .ok (.aload_n 0, 1) := by decide +kernel
theorem dX4_whereTo_13 : decode cX4_whereTo 13 = .ok (.getfield 15, 3) := by decide +kernel
theorem dX4_whereTo_16 : decode cX4_whereTo 16 = .ok (.iload_n 2, 1) := by decide +kernel
theorem dX4_whereTo_17 : decode cX4_whereTo 17 = .ok (.iaload, 1) := by decide +kernel
theorem dX4_whereTo_18 : decode cX4_whereTo 18 = .ok (.ifCond .le 14, 3) := by decide +kernel
theorem dX4_whereTo_21 : decode cX4_whereTo 21 = .ok (.iload_n 3, 1) := by decide +kernel
theorem dX4_whereTo_22 : decode cX4_whereTo 22 = .ok (.iconst 4, 1) := by decide +kernel
theorem dX4_whereTo_23 : decode cX4_whereTo 23 = .ok (.iadd, 1) := by decide +kernel
theorem dX4_whereTo_24 : decode cX4_whereTo 24 = .ok (.aload_n 1, 1) := by decide +kernel
theorem dX4_whereTo_25 : decode cX4_whereTo 25 = .ok (.getfield 92, 3) := by decide +kernel
theorem dX4_whereTo_28 : decode cX4_whereTo 28 = .ok (.arraylength, 1) := by decide +kernel
theorem dX4_whereTo_29 : decode cX4_whereTo 29 = .ok (.if_icmp .le 6, 3) := by decide +kernel
theorem dX4_whereTo_32 : decode cX4_whereTo 32 = .ok (.bipush (-4), 2) := by decide +kernel
theorem dX4_whereTo_34 : decode cX4_whereTo 34 = .ok (.ireturn, 1) := by decide +kernel
theorem dX4_whereTo_35 : decode cX4_whereTo 35 = .ok (.aload_n 0, 1) := by decide +kernel
theorem dX4_whereTo_36 : decode cX4_whereTo 36 = .ok (.getfield 9, 3) := by decide +kernel
theorem dX4_whereTo_39 : decode cX4_whereTo 39 = .ok (.iload_n 2, 1) := by decide +kernel
theorem dX4_whereTo_40 : decode cX4_whereTo 40 = .ok (.iaload, 1) := by decide +kernel
theorem dX4_whereTo_41 : decode cX4_whereTo 41 = .ok (.aload_n 0, 1) := by decide +kernel
theorem dX4_whereTo_42 : decode cX4_whereTo 42 = .ok (.getfield 15, 3) := by decide +kernel
theorem dX4_whereTo_45 : decode cX4_whereTo 45 = .ok (.iload_n 2, 1) := by decide +kernel
theorem dX4_whereTo_46 : decode cX4_whereTo 46 = .ok (.iaload, 1) := by decide +kernel
theorem dX4_whereTo_47 : decode cX4_whereTo 47 = .ok (.iadd, 1) := by decide +kernel
theorem dX4_whereTo_48 : decode cX4_whereTo 48 = .ok (.istore 4, 2) := by decide +kernel
theorem dX4_whereTo_50 : decode cX4_whereTo 50 = .ok (.bipush (-4), 2) := by decide +kernel
theorem dX4_whereTo_52 : decode cX4_whereTo 52 = .ok (.istore 5, 2) := by decide +kernel
theorem dX4_whereTo_54 : decode cX4_whereTo 54 = .ok (.iload 4, 2) := by decide +kernel
theorem dX4_whereTo_56 : decode cX4_whereTo 56 = .ok (.istore 6, 2) := by decide +kernel
theorem dX4_whereTo_58 : decode cX4_whereTo 58 = .ok (.iload_n 3, 1) := by decide +kernel
theorem dX4_whereTo_59 : decode cX4_whereTo 59 = .ok (.istore 7, 2) := by decide +kernel
theorem dX4_whereTo_61 : decode cX4_whereTo 61 = .ok (.iload 7, 2) := by decide +kernel
theorem dX4_whereTo_63 : decode cX4_whereTo 63 = .ok (.iload_n 3, 1) := by decide +kernel
theorem dX4_whereTo_64 : decode cX4_whereTo 64 = .ok (.iconst 4, 1) := by decide +kernel
theorem dX4_whereTo_65 : decode cX4_whereTo 65 = .ok (.iadd, 1) := by decide +kernel
theorem dX4_whereTo_66 : decode cX4_whereTo 66 = .ok (.if_icmp .ge 94, 3) := by decide +kernel
theorem dX4_whereTo_69 : decode cX4_whereTo 69 = .ok (.aload_n 1, 1) := by decide +kernel
theorem dX4_whereTo_70 : decode cX4_whereTo 70 = .ok (.getfield 92, 3) := by decide +kernel
theorem dX4_whereTo_73 : decode cX4_whereTo 73 = .ok (.iload 7, 2) := by decide +kernel
theorem dX4_whereTo_75 : decode cX4_whereTo 75 = .ok (.iaload, 1) := by decide +kernel
theorem dX4_whereTo_76 : decode cX4_whereTo 76 = .ok (.istore 8, 2) := by decide +kernel
theorem dX4_whereTo_78 : decode cX4_whereTo 78 = .ok (.iload 8, 2) := by decide +kernel
theorem dX4_whereTo_80 : decode cX4_whereTo 80 = .ok (.ifCond .lt 74, 3) := by decide +kernel
theorem dX4_whereTo_83 : decode cX4_whereTo 83 = .ok (.iload 8, 2) := by decide +kernel
theorem dX4_whereTo_85 : decode cX4_whereTo 85 = .ok (.bipush 36, 2) := by decide +kernel
theorem dX4_whereTo_87 : decode cX4_whereTo 87 = .ok (.if_icmp .ge 67, 3) := by decide +kernel
theorem dX4_whereTo_90 : decode cX4_whereTo 90 = .ok (.aload_n 0, 1) := by decide +kernel
theorem dX4_whereTo_91 : decode cX4_whereTo 91 = .ok (.getfield 9, 3) := by decide +kernel
theorem dX4_whereTo_94 : decode cX4_whereTo 94 = .ok (.iload 8, 2) := by decide +kernel
theorem dX4_whereTo_96 : decode cX4_whereTo 96 = .ok (.iaload, 1) := by decide +kernel
theorem dX4_whereTo_97 : decode cX4_whereTo 97 = .ok (.aload_n 0, 1) := by decide +kernel
theorem dX4_whereTo_98 : decode cX4_whereTo 98 = .ok (.getfield 15, 3) := by decide +kernel
theorem dX4_whereTo_101 : decode cX4_whereTo 101 = .ok (.iload 8, 2) := by decide +kernel
theorem dX4_whereTo_103 : decode cX4_whereTo 103 = .ok (.iaload, 1) := by decide +kernel
theorem dX4_whereTo_104 : decode cX4_whereTo 104 = .ok (.iadd, 1) := by decide +kernel
theorem dX4_whereTo_105 : decode cX4_whereTo 105 = .ok (.istore 9, 2) := by decide +kernel
theorem dX4_whereTo_107 : decode cX4_whereTo 107 = .ok (.iload 9, 2) := by decide +kernel
theorem dX4_whereTo_109 : decode cX4_whereTo 109 = .ok (.iload 4, 2) := by decide +kernel
theorem dX4_whereTo_111 : decode cX4_whereTo 111 = .ok (.iconst 2, 1) := by decide +kernel
theorem dX4_whereTo_112 : decode cX4_whereTo 112 = .ok (.isub, 1) := by decide +kernel
theorem dX4_whereTo_113 : decode cX4_whereTo 113 = .ok (.if_icmp .le 14, 3) := by decide +kernel
theorem dX4_whereTo_116 : decode cX4_whereTo 116 = .ok (.aload_n 1, 1) := by decide +kernel
theorem dX4_whereTo_117 : decode cX4_whereTo 117 = .ok (.getfield 95, 3) := by decide +kernel
theorem dX4_whereTo_120 : decode cX4_whereTo 120 = .ok (.iload 8, 2) := by decide +kernel
theorem dX4_whereTo_122 : decode cX4_whereTo 122 = .ok (.iaload, 1) := by decide +kernel
theorem dX4_whereTo_123 : decode cX4_whereTo 123 = .ok (.iconst 2, 1) := by decide +kernel
theorem dX4_whereTo_124 : decode cX4_whereTo 124 = .ok (.if_icmp .ne 7, 3) := by decide +kernel
theorem dX4_whereTo_127 : decode cX4_whereTo 127 = .ok (.iconst 1, 1) := by decide +kernel
